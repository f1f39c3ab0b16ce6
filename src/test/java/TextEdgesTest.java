/** The first part of the terms, and promises 1 to 4 and 29: each sentence that names an edge. */
public final class TextEdgesTest {
    private static final String PERSON = "p0 0 0;";
    private static final String SEVEN = PERSON.repeat(7);

    public static void main(String[] args) {
        namesAsTold();
        namesAtFirst();
        howManyNames();
        peopleFromNobodyToSeven();
        anEighthPerson();
        wealth();
        bills();
        lawsAreBits();
        lawsAtFirst();
        eachLawIsOfAllOfAName();
        quarrelsOfTwoUnlike();
        twoHundredLetters();
        aTextOfTwoHundred();
        blanks();
        onlyBlanksAreBlanks();
        itemsAreEnded();
        namesAreTheFirst();
        quarrelsAreOfPeopleToldAhead();
        aQuarrelToldAgain();
        lawsOnce();
        tokensByTheirPlace();
        otherLetters();
        numbersAbove99();
        numbersWithAZeroAhead();
        aBlankEndsANumber();
        theFirstFaultOfSeveral();
        everyEarlyEnd();
        theLeastAndTheGreatestFault();
        letters();
        cleared();
        howManyItems();
        aFaultLeavesTheText();
        readAnew();
        aNewObject();
        counts();
        Due.end();
    }

    private static void fine(String text, int items) {
        new Run().type(text).due(items, "republic").due(0, "count", 4);
    }

    private static void fault(String text, int place) {
        Due.is("\"" + text + "\"", new Run().type(text).call("republic"), -10 - place);
    }

    private static void namesAsTold() {
        Due.sentence("NAMES 0 .. as many as are told less 1");
        for (int many = 1; many <= 4; many++) {
            String told = "n" + many + ";";
            fine(told + "p" + (many - 1) + " 0 0;", 2);
            fault(told + "p" + many + " 0 0;", 4);
            Run run = Run.told(told + PERSON);
            run.due(many, "count", 0).due(-1, "name", -1, 0).due(-1, "name", many, 0);
            run.due(0, "names", 0, many - 1).due(-1, "names", 0, many).due(-1, "names", 0, -1);
            run.due(many - 1, "person", 0, 0).due(1, "name", many - 1, 0);
            run.due(1, "odds", many - 1, 0, 0, 0).due(-1, "odds", many, 0, 0, 0).due(-1, "odds", -1, 0, 0, 0);
        }
    }

    private static void namesAtFirst() {
        Due.sentence("NAMES .. 4 at first");
        new Run().due(4, "count", 0).due(0, "name", 3, 0).due(-1, "name", 4, 0);
        fine("p3 0 0;", 1);
        fault("p4 0 0;", 1);
        Run.told("n1;").due(1, "count", 0).anew("p3 0 0;").due(4, "count", 0);
    }

    private static void howManyNames() {
        Due.sentence("n N (NAMES): 1 .. 4");
        fault("n0;", 1);
        fine("n1;", 1);
        fine("n4;", 1);
        fault("n5;", 1);
        fault("n 10;", 2);
    }

    private static void peopleFromNobodyToSeven() {
        Due.sentence("PEOPLE 0 .. (7 at most)");
        for (int many = 0; many <= 7; many++) {
            Run run = Run.told(PERSON.repeat(many)).due(many, "count", 1);
            run.due(many == 0 ? -1 : 0, "person", many - 1, 0).due(-1, "person", many, 0).due(-1, "person", -1, 0);
        }
    }

    private static void anEighthPerson() {
        Due.sentence("FAULT: an eighth p");
        fine(SEVEN, 7);
        fault(SEVEN + PERSON, 49);
        fault(SEVEN + "p", 49);
        fault(SEVEN + " p9 9 99;", 50);
        fault("n1;" + SEVEN + "l1;p", 55);
        fine(SEVEN + "q0 6;q6 5;l1;", 10);
    }

    private static void wealth() {
        Due.sentence("WEALTH (0 .. 99)");
        Run.told("p0 0 0;p0 99 0;").due(0, "person", 0, 1).due(99, "person", 1, 1);
        fault("p0 100 0;", 3);
    }

    private static void bills() {
        Due.sentence("FOR (BILLS 0 .. 4 as bits)");
        Run.told("p0 0 0;p0 0 31;").due(0, "person", 0, 2).due(31, "person", 1, 2);
        fault("p0 0 32;", 5);
        for (int b = 0; b <= 4; b++) {
            Run run = Run.told("p0 0 " + (1 << b) + ";").due(1 << b, "person", 0, 2);
            for (int other = 0; other <= 4; other++) {
                run.due(b == other ? 1 : 0, "bill", other, 0).due(b == other ? 0 : 1, "bill", other, 1);
            }
            run.due(-1, "bill", 5, 0).due(-1, "bill", -1, 0);
        }
    }

    private static void lawsAreBits() {
        Due.sentence("LAWS (bits 0 .. 15)");
        for (int set = 0; set <= 15; set++) {
            Run.told("l" + set + ";").due(set, "now", 2);
        }
        fault("l16;", 1);
        fault("l99;", 1);
    }

    private static void lawsAtFirst() {
        Due.sentence("LAWS .. 15 at first");
        new Run().due(15, "now", 2);
        Run.told("l0;").due(0, "now", 2).anew("").due(15, "now", 2);
    }

    private static void eachLawIsOfAllOfAName() {
        Due.sentence("1 HURTS, 2 VOTES, 4 TAX, 8 DEEDS are of all of a NAME");
        for (int set = 0; set <= 15; set++) {
            Run run = Run.told("n2;p0 90 1;p0 10 1;p1 0 0;l" + set + ";");
            run.due(0, "hurts", 0, 1).times(3, "deeds", 1);
            run.due((set & 1) != 0 ? 3 : 1, "now", 3);
            run.due((set & 2) != 0 ? 1 : 2, "bill", 0, 0);
            run.due((set & 4) != 0 ? 5 : 9, "person", 0, 7);
            run.due((set & 8) != 0 ? 3 : 0, "person", 0, 6);
        }
    }

    private static void quarrelsOfTwoUnlike() {
        Due.sentence("QUARRELS of two unlike PEOPLE; FAULT: a B that is A");
        Run.told("p0 0 0;p0 0 0;q1 0;").due(2, "quarrels", 0).due(1, "quarrels", 1);
        Run.told(SEVEN + "q0 6;").due(64, "quarrels", 0).due(1, "quarrels", 6).due(0, "quarrels", 3);
        fault("p0 0 0;q0 0;", 10);
        fault(SEVEN + "q6  6;", 53);
    }

    private static void twoHundredLetters() {
        Due.sentence("a text (200 letters at most)");
        Run run = new Run();
        for (int many = 1; many <= 200; many++) {
            run.due(many, "type", 32);
        }
        run.due(-3, "type", 32).due(-3, "type", 0).due(-3, "type", 255).due(200, "count", 4);
        run.due(200, "clear").due(1, "type", 32);
    }

    private static void aTextOfTwoHundred() {
        Due.sentence("a text (200 letters at most), its last letter is read too");
        fine("l3" + " ".repeat(197) + ";", 1);
        fine(" ".repeat(197) + "l3;", 1);
        Run run = new Run().type("l3" + " ".repeat(197) + ";").due(-3, "type", ';').due(1, "republic");
        run.due(3, "now", 2);
    }

    private static void blanks() {
        Due.sentence("blanks (32) between TOKENS");
        fine("   n  2  ;  p 1   9  1   ;  ", 2);
        fine("n2;p1 9 1;p0 9 1;q0 1;l1;", 5);
        Run.told("  l  12  ;").due(12, "now", 2);
    }

    private static void onlyBlanksAreBlanks() {
        Due.sentence("blanks (32): no other letter is one");
        for (int letter : new int[] {0, 9, 10, 11, 12, 13, 31, 33, 95, 127, 160, 255}) {
            fault("l1;" + (char) letter, 3);
            fault("l" + (char) letter + "1;", 1);
        }
    }

    private static void itemsAreEnded() {
        Due.sentence("ITEMS, each ended by ;");
        fault("n2", 2);
        fault("n2p0 0 0;", 2);
        fault("p0 0 0l1;", 6);
        fault("p0 0 0 q0 0;", 7);
        fault("l1 l2;", 3);
        fault(";", 0);
        fault("n2;;", 3);
        fault("n2;  ;", 5);
        fault("p0 0 0,", 6);
    }

    private static void namesAreTheFirst() {
        Due.sentence("n N (NAMES; the first of all, if it is told); FAULT: n behind another ITEM");
        fine("l1;", 1);
        fine("n3;l1;", 2);
        fault("l1;n3;", 3);
        fault("p0 0 0;n3;", 7);
        fault("n3;n3;", 3);
        fault("p0 0 0;p0 0 0;q0 1;n", 19);
    }

    private static void quarrelsAreOfPeopleToldAhead() {
        Due.sentence("q A B (told ahead); FAULT: a PERSON that there is not");
        fault("q0 1;", 1);
        fault("p0 0 0;q0 1;p0 0 0;", 10);
        fault("p0 0 0;q1 0;p0 0 0;", 8);
        fine("p0 0 0;p0 0 0;q0 1;p0 0 0;q2 0;", 5);
        fault("p0 0 0;p0 0 0;q0 2;", 17);
        fault("p0 0 0;p0 0 0;q2 0;", 15);
        fault(SEVEN + "q0 7;", 52);
        fault(SEVEN + "q7 0;", 50);
    }

    private static void aQuarrelToldAgain() {
        Due.sentence("a QUARREL .. told again: as it is");
        Run run = new Run().type("p0 0 0;p0 0 0;q0 1;q0 1;q1 0;").due(5, "republic");
        run.due(2, "quarrels", 0).due(1, "quarrels", 1).due(1, "now", 4);
    }

    private static void lawsOnce() {
        Due.sentence("l B (LAWS; once at most); FAULT: l again");
        fault("l1;l1;", 3);
        fault("l15;l15;", 4);
        fault("n2;l0;p0 0 0;l", 13);
        Run.told("p0 0 0;l0;p0 0 0;").due(0, "now", 2).due(2, "count", 1);
    }

    private static void tokensByTheirPlace() {
        Due.sentence("FAULT: the first TOKEN that can't stand there");
        for (String wrong : new String[] {"n", "p", "q", "l", ";"}) {
            fault("n" + wrong, 1);
            fault("p" + wrong, 1);
            fault("p0 " + wrong, 3);
            fault("p0 0 " + wrong, 5);
            fault("p0 0 0;q" + wrong, 8);
            fault("p0 0 0;q0 " + wrong, 10);
            fault("l" + wrong, 1);
        }
        for (String wrong : new String[] {"n", "p", "q", "l", " 1"}) {
            int blank = wrong.length() - 1;
            fault("n1" + wrong, 2 + blank);
            fault("p0 0 0" + wrong, 6 + blank);
            fault("p0 0 0;p0 0 0;q0 1" + wrong, 18 + blank);
            fault("l1" + wrong, 2 + blank);
        }
        for (String wrong : new String[] {"0", "1", "99", ";"}) {
            fault(wrong, 0);
            fault("l1;" + wrong, 3);
        }
    }

    private static void otherLetters() {
        Due.sentence("FAULT: .. of any other letter, that TOKEN's");
        for (int letter = 0; letter <= 255; letter++) {
            String sign = String.valueOf((char) letter);
            boolean digit = letter >= '0' && letter <= '9';
            boolean head = "npql".contains(sign);
            if (letter == ' ') {
                fine(sign, 0);
            } else {
                fault(sign, head ? 1 : 0);
            }
            fault("l" + sign, letter == ' ' || digit ? 2 : 1);
            fault("l1;n1" + sign, 3);
            if (letter == ';') {
                fine("l1" + sign, 1);
            } else if (digit) {
                fault("l1" + sign, letter <= '5' ? 3 : 1);
            } else {
                fault("l1" + sign, letter == ' ' ? 3 : 2);
            }
        }
        fault("N2;", 0);
        fault("p-1 0 0;", 1);
    }

    private static void numbersAbove99() {
        Due.sentence("FAULT: .. a NUMBER above 99, that TOKEN's");
        for (String above : new String[] {"100", "101", "999", "1000", "1" + "0".repeat(40), "4294967297", "4294967296"}) {
            fault("n" + above + ";", 1);
            fault("p" + above + " 0 0;", 1);
            fault("p0 " + above + " 0;", 3);
            fault("p0 0 " + above + ";", 5);
            fault("p0 0 0;p0 0 0;q" + above + " 1;", 15);
            fault("p0 0 0;p0 0 0;q0 " + above + ";", 17);
            fault("l" + above + ";", 1);
            fault(above, 0);
        }
    }

    private static void numbersWithAZeroAhead() {
        Due.sentence("FAULT: .. a NUMBER with a 0 ahead of others, that TOKEN's");
        for (String ahead : new String[] {"00", "01", "001", "010", "000"}) {
            fault("n" + ahead + ";", 1);
            fault("p" + ahead + " 0 0;", 1);
            fault("p0 " + ahead + " 0;", 3);
            fault("p0 0 " + ahead + ";", 5);
            fault("p0 0 0;p0 0 0;q" + ahead + " 1;", 15);
            fault("p0 0 0;p0 0 0;q1 " + ahead + ";", 17);
            fault("l" + ahead + ";", 1);
        }
        fine("p0 0 0;", 1);
        fine("p0 10 10;p0 90 20;", 2);
    }

    private static void aBlankEndsANumber() {
        Due.sentence("blanks between TOKENS: digits without one are one NUMBER");
        fault("l1 5;", 3);
        fault("p000;", 1);
        fault("p0 00;", 3);
        fault("p0 12;", 5);
        Run.told("l15;").due(15, "now", 2);
    }

    private static void theFirstFaultOfSeveral() {
        Due.sentence("FAULT: .. the first TOKEN");
        fault("n5;n5;x", 1);
        fault("l1;n2;x", 3);
        fault("x n5;", 0);
        fault("p4 100 32;", 1);
        fault("p0 100 32;", 3);
        fault("p0 99 32", 6);
        fault("l16", 1);
        fault("p0 0 0;q1 1;", 8);
        fault("l 007 x", 2);
        fault("n2 x 100", 3);
    }

    /** Cut short at any place but behind an item (or blanks then), the text has its fault at its end. */
    private static void everyEarlyEnd() {
        Due.sentence("FAULT: .. the text's length, if it ends too early");
        String whole = " n 2 ;p1 10  3 ; p0 99 31;q 1 0;l 15 ; ";
        boolean between = true;
        int items = 0;
        for (int length = 0; length <= whole.length(); length++) {
            if (length > 0 && whole.charAt(length - 1) == ';') {
                between = true;
                items++;
            } else if (length > 0 && whole.charAt(length - 1) != ' ') {
                between = false;
            }
            if (between) {
                fine(whole.substring(0, length), items);
            } else {
                fault(whole.substring(0, length), length);
            }
        }
        fault("n", 1);
        fault("p0 0 0   ", 9);
    }

    private static void theLeastAndTheGreatestFault() {
        Due.sentence("-10 less FAULT: 0 is the least place, the length of a full text the greatest");
        new Run().type("x").due(-10, "republic");
        new Run().type(" ".repeat(199) + "x").due(-209, "republic");
        new Run().type("l" + " ".repeat(199)).due(-210, "republic");
        new Run().type(" ".repeat(199) + "l").due(-210, "republic");
        new Run().type(" ".repeat(198) + "l1").due(-210, "republic");
    }

    private static void letters() {
        Due.sentence("A letter (0 .. 255) comes to THE TEXT: how many it has. BAD; FULL.");
        Run run = new Run().due(-1, "type", -1).due(-1, "type", 256).due(0, "count", 4);
        run.due(1, "type", 0).due(2, "type", 255).due(2, "count", 4);
        run.due(-1, "type", Integer.MIN_VALUE).due(-1, "type", Integer.MAX_VALUE).due(2, "count", 4);
        run.due(-10, "republic");
    }

    private static void cleared() {
        Due.sentence("THE TEXT is empty: how many letters it had.");
        new Run().due(0, "clear").type("l7;").due(3, "clear").due(0, "count", 4).due(0, "clear");
        new Run().type("x").due(1, "clear").type("l7;").due(1, "republic").due(7, "now", 2).due(0, "clear");
        new Run().type(" ".repeat(200)).due(200, "clear").type(" ".repeat(200)).due(200, "clear");
        // Nothing of the text that was is behind the new one.
        new Run().type("l15;").due(4, "clear").type("l1").due(-12, "republic").due(2, "clear").type("l").due(-11, "republic");
        new Run().type("l15;").due(1, "republic").type("l1").due(-12, "republic").type(";").due(1, "republic").due(1, "now", 2);
    }

    private static void howManyItems() {
        Due.sentence("THE TEXT tells all anew, and is empty then: how many ITEMS.");
        fine("", 0);
        fine("     ", 0);
        String most = PERSON + PERSON + "q0 1;".repeat(37);
        fine(most, 39);
        new Run().type("n2;").due(1, "republic").due(0, "count", 4).due(0, "republic").due(4, "count", 0);
    }

    private static void aFaultLeavesTheText() {
        Due.sentence("-10 less FAULT: nothing changes.");
        Run run = Run.told("n2;p1 5 3;l6;").type("n3;p0 1 1;l1").due(-22, "republic").due(12, "count", 4);
        run.due(2, "count", 0).due(1, "count", 1).due(6, "now", 2).due(5, "person", 0, 1);
        run.due(-22, "republic").due(13, "type", ';').due(3, "republic").due(3, "count", 0).due(1, "now", 2);
    }

    private static void readAnew() {
        Due.sentence("Read anew: as told, nobody HURT, no DEEDS, TOLD, RECORD, IMAGES are gone.");
        Run run = Run.told("n3;p2 90 31;p1 50 1;q0 1;l4;").due(0, "hurts", 1, 1).due(1, "deeds", 1);
        run.due(14, "year").due(1, "tells", 0, 0).due(1, "record", 4, 0).due(1, "keep", 0).due(1, "keep", 1);
        run.due(3, "now", 7).due(2, "names", 0, 0).due(50, "earns", 1, 5);
        run.type("n3;p2 90 31;p1 50 1;q0 1;l4;").due(5, "republic");
        run.dueInTurn("count", new int[0], 3, 2, 0, 0, 0);
        run.dueInTurn("person", new int[] {0}, 2, 90, 31, 0, 0, 0, 0, 9);
        run.dueInTurn("person", new int[] {1}, 1, 50, 1, 0, 0, 0, 0, 5);
        run.dueInTurn("now", new int[0], 0, 0, 4, 0, 0, 3, 1, 0);
        run.due(-2, "back", 0).due(-2, "back", 1).due(-2, "undo").due(131, "who").due(16, "which", 0);
        run.anew(PERSON).due(0, "quarrels", 0).due(1, "count", 1).due(-1, "person", 1, 0);
        run.anew("").due(0, "count", 1).due(-1, "person", 0, 0).due(-1, "quarrels", 0);
    }

    private static void aNewObject() {
        Due.sentence("OneJohn(): As told; 4 NAMES, nobody.");
        Run run = new Run();
        run.dueInTurn("count", new int[0], 4, 0, 0, 0, 0, -1);
        run.dueInTurn("now", new int[0], 0, 0, 15, 0, 0, 0, 0, 0, -1);
        for (int k = 0; k < 4; k++) {
            run.dueInTurn("name", new int[] {k}, 0, 0, 1, -1);
        }
        for (int b = 0; b < 5; b++) {
            run.dueInTurn("bill", new int[] {b}, 0, 0, 0, 0, -1);
        }
        for (String call : new String[] {"quarrels", "deeds", "cheapest"}) {
            run.due(-1, call, 0).due(-1, call, -1);
        }
        for (String call : new String[] {"person", "hurts", "earns", "names", "tells"}) {
            run.due(-1, call, 0, 0).due(-1, call, -1, 0);
        }
        run.due(0, "apart", -1).due(-1, "apart", 0).due(0, "married", -1).due(-1, "married", 0);
        run.due(128, "who").due(16, "which", 0).due(0, "which", 1).due(0, "which", 2);
        run.due(-1000000, "rate", 0, 0).due(0, "trace").due(0, "forget").due(0, "clear").due(0, "republic");
        run.due(-2, "undo").due(-2, "back", 0).due(-2, "back", 1);
        run.due(0, "year").due(1, "now", 0).due(0, "now", 1).due(0, "undo").due(0, "now", 0);
    }

    private static void counts() {
        Due.sentence("0 NAMES, 1 PEOPLE, 2 TOLD, 3 RECORD, 4 letters of THE TEXT. BAD.");
        Run run = Run.told("n3;p0 0 0;p0 0 0;").times(3, "tells", 0, 0).times(4, "record", 0, 0).type("12345");
        run.dueInTurn("count", new int[0], 3, 2, 3, 4, 5, -1);
        run.due(-1, "count", -1).due(-1, "count", Integer.MIN_VALUE).due(-1, "count", Integer.MAX_VALUE);
    }
}
