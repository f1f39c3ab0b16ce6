/** The third part of the terms, and promises 6 to 8 and 17 to 25: each sentence that names an edge. */
public final class AskedEdgesTest {
    private static final String SEVEN = "p0 0 0;".repeat(7);

    public static void main(String[] args) {
        quarrelsOfAPerson();
        peopleOfAName();
        meanWealth();
        billsAsked();
        apartOfNobody();
        apartFewest();
        apartTheFirst();
        apartNone();
        apartOneName();
        apartMost();
        apartAsked();
        badOnes();
        cheapestLowest();
        cheapestHeAlone();
        restlessIsLess();
        alone();
        sway();
        swayOfNobody();
        toldSix();
        toldIsSo();
        whoIfJustHe();
        whoIfNobody();
        recordSix();
        whichLaws();
        whichAllElseAsItIs();
        whichNone();
        whichAsked();
        forgotten();
        marriedNone();
        marriedMost();
        marriedTheFirst();
        marriedAsked();
        oddsOfChildren();
        oddsOfPeople();
        oddsInLeastTerms();
        oddsAsked();
        nothingIsChanged();
        Due.end();
    }

    private static void quarrelsOfAPerson() {
        Due.sentence("PEOPLE (bits) with whom a PERSON QUARRELS. BAD.");
        Run run = Run.told(SEVEN + "q0 1;q0 2;q0 3;q0 4;q0 5;q6 0;").due(126, "quarrels", 0);
        for (int p = 1; p < 7; p++) {
            run.due(1, "quarrels", p);
        }
        run.due(-1, "quarrels", 7).due(-1, "quarrels", -1);
        Run.told("p0 0 0;").due(0, "quarrels", 0).due(-1, "quarrels", 1);
    }

    private static void peopleOfAName() {
        Due.sentence("Of a NAME: 0 PEOPLE (bits). BAD.");
        Run run = Run.told("n3;" + SEVEN).due(127, "name", 0, 0).due(0, "name", 1, 0).due(0, "name", 2, 0);
        run.due(0, "names", 6, 2).due(63, "name", 0, 0).due(64, "name", 2, 0);
        run.due(-1, "name", 3, 0).due(-1, "name", -1, 0).due(-1, "name", 0, 3).due(-1, "name", 0, -1);
    }

    private static void meanWealth() {
        Due.sentence("MEAN WEALTH of a NAME: a fraction (0 by 1: of nobody), in least terms");
        Run.told("n2;p0 5 0;").dueInTurn("name", new int[] {1}, 0, 0, 1);
        Run.told("p0 0 0;p0 0 0;p0 0 0;").dueInTurn("name", new int[] {0}, 7, 0, 1);
        Run.told("p0 99 0;").dueInTurn("name", new int[] {0}, 1, 99, 1);
        Run.told("p0 1 0;p0 0 0;").dueInTurn("name", new int[] {0}, 3, 1, 2);
        Run.told("p0 1 0;p0 1 0;").dueInTurn("name", new int[] {0}, 3, 1, 1);
        Run.told("p0 9 0;p0 1 0;p0 0 0;p0 0 0;").dueInTurn("name", new int[] {0}, 15, 5, 2);
        Run.told("p0 99 0;p0 99 0;p0 99 0;p0 99 0;p0 99 0;p0 99 0;p0 98 0;").dueInTurn("name", new int[] {0}, 127, 692, 7);
        Run.told("p0 99 0;".repeat(6)).dueInTurn("name", new int[] {0}, 63, 99, 1);
        Run run = Run.told("p0 99 0;p0 98 0;").times(10, "earns", 0, 99).times(10, "earns", 1, 99);
        run.due(998, "earns", 1, -1).dueInTurn("name", new int[] {0}, 3, 1997, 2);
    }

    private static void billsAsked() {
        Due.sentence("Of a BILL: 0 yes, 1 no, 2 whether it PASSES (1, 0), 3 SWAY (bits). BAD.");
        Run run = Run.told("n1;p0 0 17;l0;").dueInTurn("bill", new int[] {0}, 1, 0, 1, 1, -1);
        run.dueInTurn("bill", new int[] {1}, 0, 1, 0, 0, -1).dueInTurn("bill", new int[] {4}, 1, 0, 1, 1, -1);
        run.due(-1, "bill", 5, 0).due(-1, "bill", -1, 0).due(-1, "bill", 0, -1).due(-1, "bill", 5, 4);
    }

    private static void way(String call, String text, int many, int... each) {
        Run.told(text).due(many, call, -1).dueInTurn(call, new int[0], each);
    }

    private static void apartOfNobody() {
        Due.sentence("APART of nobody: none is NAMED otherwise");
        way("apart", "", 0);
        way("apart", "n1;", 0);
        way("apart", "n1;p0 0 0;", 0, 0);
    }

    private static void apartFewest() {
        Due.sentence("APART: .. that by which fewest are NAMED otherwise than NOW");
        way("apart", "n2;p1 0 0;p1 0 0;p1 0 0;q1 0;q1 2;", 1, 1, 0, 1);
        way("apart", "n3;p2 0 0;p2 0 0;p1 0 0;p0 0 0;q0 1;q0 2;q0 3;q2 3;", 1, 2, 0, 1, 0);
        // Nobody quarrels in one name, so nobody is named otherwise, though a lower name were free.
        way("apart", "p3 0 0;p2 0 0;q0 1;", 0, 3, 2);
        Run run = Run.told("n2;p0 0 0;p0 0 0;q0 1;").due(1, "apart", -1).due(0, "names", 1, 1).due(0, "apart", -1);
        run.due(0, "apart", 0).due(1, "apart", 1);
    }

    private static void apartTheFirst() {
        Due.sentence("APART: .. of several the first (NAME of PERSON 0, then 1, ..)");
        way("apart", "p1 0 0;p1 0 0;q0 1;", 1, 0, 1);
        way("apart", "p0 0 0;p0 0 0;q0 1;", 1, 0, 1);
        way("apart", "p3 0 0;p3 0 0;p3 0 0;q0 1;q1 2;q0 2;", 2, 0, 1, 3);
        way("apart", "p0 0 0;p0 0 0;p1 0 0;q0 1;q1 2;", 1, 0, 2, 1);
        way("apart", "n3;p2 0 0;p2 0 0;p0 0 0;p0 0 0;q0 1;q2 3;q0 2;", 2, 0, 2, 1, 0);
    }

    private static void apartNone() {
        Due.sentence("APART: NONE");
        way("apart", "n1;p0 0 0;p0 0 0;p0 0 0;q0 2;", -9, -9, -9, -9, -1);
        way("apart", "n2;p0 0 0;p1 0 0;p0 0 0;q0 1;q0 2;q1 2;", -9, -9, -9, -9, -1);
        way("apart", "n3;p0 0 0;p1 0 0;p2 0 0;p0 0 0;q0 1;q0 2;q1 2;q0 3;q1 3;q2 3;", -9, -9, -9, -9, -9, -1);
        way("apart", "n4;p0 0 0;p1 0 0;p2 0 0;p3 0 0;q0 1;q0 2;q1 2;q0 3;q1 3;q2 3;", 0, 0, 1, 2, 3, -1);
        Run.told("n1;p0 0 0;p0 0 0;q0 1;").due(-1, "apart", 2).due(-1, "apart", -2);
    }

    private static void apartOneName() {
        Due.sentence("APART by one NAME");
        way("apart", "n1;" + SEVEN, 0, 0, 0, 0, 0, 0, 0, 0, -1);
    }

    private static void apartMost() {
        Due.sentence("APART: how many (of seven)");
        way("apart", "n2;" + SEVEN + "q0 1;q1 2;q2 3;q3 4;q4 5;q5 6;", 3, 0, 1, 0, 1, 0, 1, 0, -1);
        way("apart", "n2;p1 0 0;p0 0 0;p1 0 0;p0 0 0;p1 0 0;p0 0 0;p0 0 0;q0 1;q1 2;q2 3;q3 4;q4 5;q5 6;",
            1, 1, 0, 1, 0, 1, 0, 1);
        way("apart", "n3;p2 0 0;p2 0 0;p2 0 0;p2 0 0;p2 0 0;p2 0 0;p2 0 0;q0 1;q1 2;q0 2;q3 4;q4 5;q3 5;q2 3;q6 0;",
            4, 0, 1, 2, 0, 1, 2, 2);
    }

    private static void apartAsked() {
        Due.sentence("APART: how many (p = -1), the NAME of a PERSON; NONE. BAD.");
        Run run = Run.told("p0 0 0;p2 0 0;").due(0, "apart", -1).due(0, "apart", 0).due(2, "apart", 1);
        run.due(-1, "apart", 2).due(-1, "apart", -2);
        new Run().due(0, "apart", -1).due(-1, "apart", 0).due(-1, "apart", -2);
        Run.told(SEVEN).due(0, "apart", 6).due(-1, "apart", 7);
    }

    private static void badOnes() {
        Due.sentence("BAD ONES: twos who QUARREL and have one NAME: how many");
        Run run = Run.told("n2;p0 0 0;p0 0 0;p0 0 0;p1 0 0;q0 1;q1 0;q2 1;q0 3;").due(2, "now", 4);
        run.due(1, "names", 3, 0).due(3, "now", 4).due(0, "names", 1, 1).due(1, "now", 4);
        run.due(0, "names", 0, 1).due(1, "now", 4).due(0, "names", 2, 1).due(2, "now", 4);
        Run.told("p0 0 0;p0 0 0;p0 0 0;p0 0 0;q0 1;q0 2;q0 3;q1 2;q1 3;q2 3;").due(6, "now", 4);
        Run.told(SEVEN).due(0, "now", 4);
    }

    private static void cheapestLowest() {
        Due.sentence("CHEAPEST: .. his TAX would be least, of several the lowest");
        // Alone he pays 9 by any name; with the poor one 4 or 5.
        Run.told("p3 99 0;").due(0, "cheapest", 0);
        Run.told("p3 99 0;p2 0 0;").due(2, "cheapest", 0).due(0, "cheapest", 1);
        Run.told("p3 99 0;p2 0 0;p1 0 0;").due(1, "cheapest", 0);
        Run.told("p3 99 0;p2 1 0;p1 0 0;").due(1, "cheapest", 0);
        Run.told("p0 99 0;p2 0 0;p1 1 0;").due(2, "cheapest", 0);
        Run.told("p0 99 0;p2 10 0;p1 11 0;").due(1, "cheapest", 0);
        Run.told("n1;p0 99 0;").due(0, "cheapest", 0).due(-1, "cheapest", 1).due(-1, "cheapest", -1);
        Run.told("p3 99 0;p2 0 0;l11;").due(0, "cheapest", 0).due(0, "cheapest", 1);
    }

    private static void cheapestHeAlone() {
        Due.sentence("CHEAPEST: .. he alone being NAMED so");
        // By name 1 he would be one of three: 99 by 3.
        Run.told("n2;p0 99 0;p1 0 0;p1 0 0;").due(1, "cheapest", 0).due(9, "person", 0, 7).due(0, "person", 0, 0);
        // His own name counts as it is, with him once.
        Run.told("n2;p1 60 0;p1 20 0;p0 40 0;").due(1, "cheapest", 0).due(0, "cheapest", 2);
    }

    private static void restlessIsLess() {
        Due.sentence("RESTLESS: PEOPLE (bits) whose TAX would be less by some NAME, they alone being NAMED so");
        Run.told("n2;p0 90 0;p1 90 0;").due(0, "now", 6);
        Run.told("n2;p0 90 0;p1 89 0;").due(1, "now", 6);
        Run.told("n2;p0 90 0;p1 80 0;").due(1, "now", 6);
        Run.told("n1;p0 90 0;p0 0 0;").due(0, "now", 6);
        Run.told("n2;p0 90 0;p0 0 0;").due(2, "now", 6);
        Run.told("n2;p0 18 0;p0 1 0;").due(0, "now", 6);
        Run.told("n2;p0 90 0;p0 0 0;l11;").due(0, "now", 6);
        Run.told("p1 90 0;p1 0 0;p2 99 0;p2 0 0;p3 99 0;p3 9 0;p3 0 0;").due(127 - 1 - 4 - 16, "now", 6);
    }

    private static void alone() {
        Due.sentence("ALONE: PEOPLE (bits) whose NAME nobody else has");
        Run.told("p0 0 0;").due(1, "now", 5);
        Run.told("p0 0 0;p0 0 0;").due(0, "now", 5);
        Run.told("p0 0 0;p1 0 0;p2 0 0;p3 0 0;").due(15, "now", 5);
        Run run = Run.told("p0 0 0;p1 0 0;p2 0 0;p3 0 0;p3 0 0;p2 0 0;p1 0 0;").due(1, "now", 5);
        run.due(1, "names", 6, 0).due(2, "now", 5).due(3, "names", 3, 1).due(16, "now", 5);
    }

    private static void sway() {
        Due.sentence("SWAY of a BILL: NAMES (bits): it would not be as it is without all PEOPLE of that NAME");
        Run.told("p0 0 1;l0;").due(1, "bill", 0, 3);
        Run.told("p3 0 1;p2 0 1;l0;").due(0, "bill", 0, 3);
        Run.told("p3 0 1;p2 0 1;p1 0 0;l0;").due(12, "bill", 0, 3);
        Run.told("p3 0 1;p1 0 0;l0;").due(2, "bill", 0, 3);
        Run.told("p3 0 1;p1 0 0;p1 0 0;p0 0 0;l0;").due(0, "bill", 0, 3);
        Run.told("p3 0 1;p1 0 0;p1 0 0;l0;").due(2, "bill", 0, 3);
        Run.told("p3 0 1;p3 0 0;p3 0 0;p1 0 1;l0;").due(8, "bill", 0, 3);
        Run.told("p3 0 1;p3 0 0;p3 0 0;p1 0 1;l2;").due(8, "bill", 0, 3);
        Run.told("p3 0 1;p3 0 0;p1 0 1;p1 0 1;p0 0 0;l2;").due(1, "bill", 0, 3);
        Run.told("p3 0 1;p3 0 0;p1 0 1;p1 0 1;p0 0 0;l0;").due(2, "bill", 0, 3);
    }

    private static void swayOfNobody() {
        Due.sentence("SWAY: a NAME that nobody has sways nothing");
        new Run().due(0, "bill", 0, 3);
        Run.told("n2;p0 0 1;l2;").due(1, "bill", 0, 3).due(0, "bill", 1, 3);
    }

    private static void toldSix() {
        Due.sentence("TOLD (6 at most): how much there is. BAD; FULL.");
        Run run = Run.told("p0 0 0;p0 0 0;").due(0, "count", 2);
        for (int much = 1; much <= 6; much++) {
            run.due(much, "tells", much % 2, 1).due(much, "count", 2);
        }
        run.due(-3, "tells", 0, 1).due(-3, "tells", 1, 0).due(6, "count", 2).due(3, "who");
        run.due(-1, "tells", 2, 1).due(-1, "tells", -1, 1).due(-1, "tells", 0, 2).due(-1, "tells", 0, -1);
        run.due(1, "record", 0, 0).due(7, "forget").due(1, "tells", 0, 0);
    }

    private static void toldIsSo() {
        Due.sentence("TOLD: a PERSON LIMPED (1), or did not (0); all that was TOLD, the sixth too");
        for (int at = 0; at < 6; at++) {
            Run run = Run.told(SEVEN + "l0;");
            for (int i = 0; i < 6; i++) {
                run.due(i + 1, "tells", i == at ? 6 : 5, i == at ? 1 : 0);
            }
            run.due(64, "who");
        }
        Run.told("p0 0 0;").due(1, "tells", 0, 1).due(2, "tells", 0, 0).due(0, "who").due(0, "which", 0);
    }

    private static void whoIfJustHe() {
        Due.sentence("WHO: PEOPLE (bits 0 .. 6) of whom, if just he were HURT, all that was TOLD is so");
        Run.told(SEVEN + "l0;").due(1, "tells", 6, 1).due(64, "who");
        Run.told(SEVEN + "l1;").due(1, "tells", 6, 1).due(127, "who");
        Run.told(SEVEN + "l1;").due(1, "tells", 6, 0).due(128, "who");
        Run run = Run.told("p0 0 0;p1 0 0;l0;").due(0, "hurts", 0, 1).due(0, "hurts", 1, 1).due(1, "tells", 0, 1);
        run.due(1, "who").due(2, "tells", 1, 1).due(0, "who");
        run.due(3, "now", 3);
    }

    private static void whoIfNobody() {
        Due.sentence("WHO: .. (128: if nobody were)");
        new Run().due(128, "who");
        Run run = Run.told(SEVEN).due(255, "who").due(0, "hurts", 0, 1).due(255, "who").due(1, "tells", 0, 0);
        run.due(128, "who").due(15, "laws", 0).due(128 + 126, "who");
    }

    private static void recordSix() {
        Due.sentence("RECORD (6 at most): how much there is. BAD; FULL.");
        Run run = Run.told("p0 0 0;").due(0, "count", 3);
        for (int much = 1; much <= 6; much++) {
            run.due(much, "record", much % 5, 0).due(much, "count", 3);
        }
        run.due(-3, "record", 0, 1).due(-3, "record", 4, 0).due(6, "count", 3).due(16, "which", 0);
        run.due(-1, "record", 5, 0).due(-1, "record", -1, 0).due(-1, "record", 0, 2).due(-1, "record", 0, -1);
        run.due(1, "tells", 0, 0).due(7, "forget").due(1, "record", 4, 1).due(0, "which", 0);
        for (int at = 0; at < 6; at++) {
            Run one = Run.told("p0 0 16;");
            for (int i = 0; i < 6; i++) {
                one.due(i + 1, "record", i == at ? 4 : 0, 0);
            }
            one.due(0, "which", 0);
        }
    }

    private static void whichLaws() {
        Due.sentence("WHICH LAWS: sets (0 .. 15) by which .. all of the RECORD, and all that was TOLD, is so: how many; the "
            + "least; LAWS that are in all of them (bits)");
        new Run().due(16, "which", 0).due(0, "which", 1).due(0, "which", 2);
        // By heads bill 0 passes and bill 1 does not; by names it is the other way about.
        String text = "n3;p0 0 1;p0 0 1;p0 0 1;p1 0 2;p2 0 2;";
        Run.told(text).due(1, "record", 0, 1).due(8, "which", 0).due(0, "which", 1).due(0, "which", 2);
        Run.told(text).due(1, "record", 1, 0).due(8, "which", 0).due(0, "which", 1).due(0, "which", 2);
        Run.told(text).due(1, "record", 0, 0).due(2, "record", 1, 1).dueInTurn("which", new int[0], 8, 2, 2);
        Run.told(text).due(1, "record", 0, 0).due(2, "record", 1, 0).dueInTurn("which", new int[0], 0, -9, -9);
        Run.told("n2;p0 0 1;p0 0 1;p1 0 0;p1 0 0;p1 0 1;").due(1, "record", 0, 0).dueInTurn("which", new int[0], 8, 2, 2, -1);
        Run hurt = Run.told("p0 0 0;p0 0 0;").due(0, "hurts", 0, 1).due(1, "tells", 1, 1);
        hurt.dueInTurn("which", new int[0], 8, 1, 1, -1);
        Run both = Run.told("n2;p0 0 1;p0 0 1;p1 0 0;p1 0 0;p1 0 1;").due(0, "hurts", 0, 1).due(1, "tells", 1, 0);
        both.due(1, "record", 0, 0).dueInTurn("which", new int[0], 4, 2, 2, -1).due(2, "record", 0, 0);
        both.due(2, "tells", 0, 1).dueInTurn("which", new int[0], 4, 2, 2);
    }

    private static void whichAllElseAsItIs() {
        Due.sentence("WHICH LAWS: .. all else as it is");
        Run run = Run.told("p0 0 0;p0 0 0;l0;").due(1, "tells", 1, 1).due(0, "which", 0).due(0, "hurts", 0, 1);
        run.due(8, "which", 0).due(0, "names", 1, 1).due(0, "which", 0).due(0, "hurts", 1, 1).due(16, "which", 0);
        run.due(0, "now", 2).due(0, "laws", 15).due(16, "which", 0).due(15, "now", 2);
    }

    private static void whichNone() {
        Due.sentence("WHICH LAWS: NONE");
        Run run = Run.told("p0 0 0;").due(1, "record", 0, 1).dueInTurn("which", new int[0], 0, -9, -9, -1);
        run.due(1, "forget").dueInTurn("which", new int[0], 16, 0, 0, -1);
        Run.told("p0 0 0;").due(1, "tells", 0, 1).dueInTurn("which", new int[0], 0, -9, -9, -1);
    }

    private static void whichAsked() {
        Due.sentence("how many (what = 0), the least (1; NONE), those in all (2; NONE). BAD.");
        new Run().due(-1, "which", -1).due(-1, "which", 3).due(-1, "which", Integer.MIN_VALUE);
        Run.told("p0 0 0;").due(1, "record", 0, 1).due(-1, "which", 3).due(-1, "which", -1);
    }

    private static void forgotten() {
        Due.sentence("Nothing was TOLD, the RECORD is empty: how much both were.");
        new Run().due(0, "forget");
        Run run = Run.told("p0 0 0;").times(6, "tells", 0, 1).times(6, "record", 0, 1).due(12, "forget").due(0, "forget");
        run.due(0, "count", 2).due(0, "count", 3).due(129, "who").due(16, "which", 0);
        run.due(1, "tells", 0, 1).due(1, "forget").due(1, "record", 0, 1).due(1, "forget");
        run.due(1, "tells", 0, 0).due(1, "record", 0, 0).due(128, "who").due(2, "forget");
    }

    private static void marriedNone() {
        Due.sentence("MARRIED: no two of one NAME, none who QUARREL");
        way("married", "", 0, -1);
        way("married", "p0 0 0;", 0, -9, -1);
        way("married", SEVEN, 0, -9, -9, -9, -9, -9, -9, -9, -1);
        way("married", "p0 0 0;p1 0 0;q0 1;", 0, -9, -9, -1);
        way("married", "p0 0 0;p1 0 0;", 1, 1, 0, -1);
        way("married", "p0 0 0;p1 0 0;p2 0 0;p3 0 0;q0 1;q0 2;q0 3;q1 2;q1 3;q2 3;", 0, -9, -9, -9, -9);
    }

    private static void marriedMost() {
        Due.sentence("MARRIED: .. (each in one at most) .. one of most twos");
        way("married", "p0 0 0;p1 0 0;p1 0 0;p2 0 0;q0 2;q2 3;", 1, 1, 0, -9, -9);
        way("married", "p0 0 0;p1 0 0;p2 0 0;p3 0 0;q1 2;q2 3;", 2, 2, 3, 0, 1);
        // By 0 and 1 there were two twos only, as three of the others have one name.
        way("married", "p0 0 0;p1 0 0;p2 0 0;p2 0 0;p2 0 0;p3 0 0;", 3, 2, 3, 0, 1, 5, 4);
        way("married", "p0 0 0;p0 0 0;p0 0 0;p1 0 0;p1 0 0;p1 0 0;p1 0 0;", 3, 3, 4, 5, 0, 1, 2, -9, -1);
        way("married", "p0 0 0;p0 0 0;p0 0 0;p0 0 0;p0 0 0;p1 0 0;p1 0 0;", 2, 5, 6, -9, -9, -9, 0, 1);
        way("married", "p0 0 0;p1 0 0;p2 0 0;p3 0 0;p0 0 0;p1 0 0;p2 0 0;", 3, 1, 0, 3, 2, 5, 4, -9);
    }

    private static void marriedTheFirst() {
        Due.sentence("MARRIED: .. of several the first (the mate of PERSON 0, then 1, ..; alone is behind all)");
        way("married", "p0 0 0;p1 0 0;p2 0 0;", 1, 1, 0, -9);
        way("married", "p0 0 0;p0 0 0;p2 0 0;", 1, 2, -9, 0);
        way("married", "p0 0 0;p1 0 0;p2 0 0;p3 0 0;", 2, 1, 0, 3, 2);
        way("married", "p0 0 0;p0 0 0;p1 0 0;p1 0 0;", 2, 2, 3, 0, 1);
        way("married", "p0 0 0;p1 0 0;p2 0 0;p3 0 0;p0 0 0;q0 1;", 2, 2, 3, 0, 1, -9);
        // 0 stays alone only where his mate would cost a two.
        way("married", "p0 0 0;p1 0 0;p2 0 0;q0 2;q1 0;", 1, -9, 2, 1);
        way("married", "p0 0 0;p1 0 0;p2 0 0;p3 0 0;p3 0 0;q0 2;q1 0;q2 1;q0 3;", 2, 4, 3, -9, 1, 0);
    }

    private static void marriedAsked() {
        Due.sentence("MARRIED: how many (p = -1), the mate of a PERSON; NONE. BAD.");
        Run.told(SEVEN).due(-9, "married", 6).due(-1, "married", 7).due(0, "married", -1).due(-1, "married", -2);
        new Run().due(0, "married", -1).due(-1, "married", 0).due(-1, "married", -2);
        Run run = Run.told("p0 0 0;p1 0 0;").due(0, "married", 1).due(1, "names", 1, 0).due(-9, "married", 1);
        run.due(0, "married", -1).due(0, "undo").due(1, "married", -1);
    }

    private static void fraction(Run run, int k, int n, int v, int upper, int lower) {
        run.due(upper, "odds", k, n, v, 0).due(lower, "odds", k, n, v, 1);
    }

    private static void oddsOfChildren() {
        Due.sentence("ODDS of a NAME by n (0 .. 6): n children are christened, each by any NAME as likely");
        Run run = new Run();
        int[][] one = {{0, 1}, {1, 4}, {7, 16}, {37, 64}, {175, 256}, {781, 1024}, {3367, 4096}};
        for (int n = 0; n <= 6; n++) {
            fraction(run, 3, n, 1, one[n][0], one[n][1]);
            fraction(run, 3, n, n, 1, 1 << (2 * n));
            fraction(run, 3, n, n + 1, 0, 1);
            fraction(run, 3, n, 0, 1, 1);
        }
        run.due(-1, "odds", 3, 7, 0, 0).due(-1, "odds", 3, -1, 0, 0);
        Run three = Run.told("n3;");
        fraction(three, 0, 6, 6, 1, 729);
        fraction(three, 0, 6, 5, 13, 729);
        Run single = Run.told("n1;");
        fraction(single, 0, 0, 0, 1, 1);
        fraction(single, 0, 0, 1, 0, 1);
        fraction(single, 0, 6, 6, 1, 1);
        fraction(single, 0, 6, 7, 0, 1);
    }

    private static void oddsOfPeople() {
        Due.sentence("ODDS: .. v (0 .. 20) .. that the NAME is of v PEOPLE at least then");
        Run run = Run.told("n2;" + SEVEN);
        fraction(run, 0, 0, 0, 1, 1);
        fraction(run, 0, 0, 7, 1, 1);
        fraction(run, 0, 0, 8, 0, 1);
        fraction(run, 0, 6, 13, 1, 64);
        fraction(run, 0, 6, 14, 0, 1);
        fraction(run, 0, 6, 20, 0, 1);
        fraction(run, 1, 6, 20, 0, 1);
        fraction(run, 1, 6, 6, 1, 64);
        run.due(-1, "odds", 0, 0, 21, 0).due(-1, "odds", 0, 0, -1, 0);
        run.due(0, "names", 6, 1);
        fraction(run, 0, 1, 7, 1, 2);
        fraction(run, 1, 1, 2, 1, 2);
    }

    private static void oddsInLeastTerms() {
        Due.sentence("ODDS: upper (what = 0), lower number (1), in least terms");
        Run run = Run.told("n2;");
        fraction(run, 0, 3, 2, 1, 2);
        fraction(run, 0, 5, 3, 1, 2);
        fraction(run, 0, 2, 1, 3, 4);
        fraction(run, 0, 4, 2, 11, 16);
        fraction(run, 0, 4, 3, 5, 16);
        Run three = Run.told("n3;");
        fraction(three, 2, 2, 2, 1, 9);
        fraction(three, 2, 3, 2, 7, 27);
        fraction(three, 2, 4, 2, 11, 27);
    }

    private static void oddsAsked() {
        Due.sentence("ODDS. BAD.");
        Run run = Run.told("n3;").due(1, "odds", 2, 0, 0, 0).due(-1, "odds", 3, 0, 0, 0).due(-1, "odds", -1, 0, 0, 0);
        run.due(1, "odds", 2, 6, 0, 1).due(0, "odds", 2, 6, 20, 0).due(1, "odds", 2, 6, 20, 1);
        run.due(-1, "odds", 2, 0, 0, 2).due(-1, "odds", 2, 0, 0, -1).due(-1, "odds", 3, 7, 21, 2);
    }

    /** Asked between, all that part 3 tells leaves things as they were. */
    private static void nothingIsChanged() {
        Due.sentence("(As things are NOW; nothing is changed.)");
        Run run = Run.told("n3;p1 90 1;p1 10 2;p0 99 3;q1 0;q0 2;").due(0, "hurts", 2, 1).due(1, "deeds", 1);
        run.due(1, "tells", 0, 0).due(1, "record", 1, 1).due(1, "apart", -1).due(1, "married", -1).due(1, "cheapest", 2);
        run.due(1, "bill", 0, 3).due(128 + 4, "who").due(16, "which", 0).due(1, "odds", 2, 0, 0, 0);
        run.dueInTurn("person", new int[] {0}, 1, 90, 1, 0, 0, 0, 1, 5);
        run.dueInTurn("person", new int[] {1}, 1, 10, 2, 0, 0, 1, 1, 5);
        run.dueInTurn("person", new int[] {2}, 0, 99, 3, 1, 1, 0, 0, 9);
        run.dueInTurn("now", new int[0], 0, 0, 15, 4, 1, 4, 6, 2).dueInTurn("count", new int[0], 3, 3, 1, 1, 0);
        run.due(0, "trace").due(-2, "back", 0);
    }
}
