/** The second part of the terms, and promises 5 and 8 to 16: each sentence that names an edge. */
public final class DoneEdgesTest {
    private static final int[] NOTHING = {};

    public static void main(String[] args) {
        nobodyIsHurtAtFirst();
        limps();
        limpsByLaw();
        deedsFromNoneTo99();
        fame();
        taxIsCut();
        taxOfTheMeanIsCut();
        yesAndNo();
        oneThingOfEachName();
        passesByMore();
        hurtsAndHeals();
        earnedFromLeastToMost();
        earnedBelowNothing();
        earnedBeyond999();
        named();
        lawsSet();
        taxAsItWasAhead();
        allHeHas();
        theChest();
        yearsOfNobody();
        year999();
        tenAreKnown();
        theOldestAreLost();
        theRowsGoRound();
        eachOfSixIsUndone();
        whatIsDoneAgainIsUndoneAgain();
        onlyThoseSix();
        refusedIsNotUndone();
        undoNone();
        ofAPerson();
        now();
        Due.end();
    }

    private static void nobodyIsHurtAtFirst() {
        Due.sentence("HURT: PEOPLE (bits; nobody at first)");
        Run run = Run.told("p0 0 0;p1 0 0;").due(0, "now", 3).due(0, "person", 0, 3).due(0, "person", 1, 3);
        run.due(0, "hurts", 1, 1).due(0, "person", 0, 3).due(1, "person", 1, 3);
        new Run().due(0, "now", 3).due(15, "laws", 14).due(0, "now", 3);
    }

    private static void limps() {
        Due.sentence("LIMPS: who is HURT");
        Run run = Run.told("p0 0 0;p0 0 0;p0 0 0;p1 0 0;p2 0 0;p3 0 0;p3 0 0;l14;");
        run.due(0, "hurts", 0, 1).due(1, "now", 3).due(0, "hurts", 6, 1).due(65, "now", 3);
        run.due(1, "person", 0, 4).due(0, "person", 1, 4).due(0, "person", 5, 4).due(1, "person", 6, 4);
    }

    private static void limpsByLaw() {
        Due.sentence("LIMPS: .. by LAW 1 all of a NAME of which one is HURT");
        Run run = Run.told("p0 0 0;p0 0 0;p0 0 0;p1 0 0;p2 0 0;p3 0 0;p3 0 0;l1;");
        run.due(0, "hurts", 0, 1).due(7, "now", 3).due(0, "hurts", 6, 1).due(103, "now", 3);
        run.due(1, "person", 5, 4).due(0, "person", 5, 3).due(0, "person", 3, 4);
        run.due(3, "names", 6, 1).due(79, "now", 3).due(0, "hurts", 1, 1).due(1, "hurts", 0, 0).due(79, "now", 3);
        run.due(1, "hurts", 1, 0).due(72, "now", 3);
    }

    private static void deedsFromNoneTo99() {
        Due.sentence("DEEDS of a PERSON (0 at first; 99 at most). STATE: he did 99.");
        Run run = Run.told("p0 0 0;p0 0 0;").due(0, "person", 0, 5).times(98, "deeds", 0).due(98, "person", 0, 5);
        run.due(99, "deeds", 0).due(99, "person", 0, 5).due(-2, "deeds", 0).due(99, "person", 0, 5);
        run.due(10, "now", 7).due(100, "deeds", 1).due(1, "person", 1, 5).due(-2, "deeds", 0);
        run.due(9, "undo").due(8, "undo").due(98, "person", 0, 5).due(99, "deeds", 0).due(-2, "deeds", 0);
        run.due(0, "names", 0, 3).due(-2, "deeds", 0).due(-1, "deeds", 2).due(-1, "deeds", -1);
    }

    private static void fame() {
        Due.sentence("FAME: his DEEDS; by LAW 8 those of all of his NAME, together");
        Run run = Run.told("p0 0 0;p0 0 0;p1 0 0;l7;").due(0, "person", 0, 6);
        run.due(1, "deeds", 0).due(1, "deeds", 1).due(2, "deeds", 1).due(1, "deeds", 2);
        run.due(1, "person", 0, 6).due(2, "person", 1, 6).due(7, "laws", 8);
        run.due(3, "person", 0, 6).due(3, "person", 1, 6).due(1, "person", 2, 6).due(4, "deeds", 0);
        run.times(97, "deeds", 0).times(97, "deeds", 1).due(198, "person", 0, 6).due(198, "person", 1, 6);
        run.due(1, "names", 2, 0).due(199, "person", 1, 6).due(99, "person", 1, 5);
    }

    private static void taxIsCut() {
        Due.sentence("TAX: WEALTH by 10, cut");
        int[][] taxes = {{0, 0}, {9, 0}, {10, 1}, {19, 1}, {20, 2}, {89, 8}, {90, 9}, {99, 9}};
        for (int[] tax : taxes) {
            Run.told("p0 " + tax[0] + " 0;p0 55 0;l11;").due(tax[1], "person", 0, 7);
            Run.told("p0 " + tax[0] + " 0;p1 55 0;l4;").due(tax[1], "person", 0, 7);
        }
        Run.told("p0 99 0;l11;").times(10, "earns", 0, 99).due(99, "person", 0, 7).due(990, "earns", 0, -9);
    }

    private static void taxOfTheMeanIsCut() {
        Due.sentence("TAX: .. by LAW 4 the mean WEALTH of his NAME, cut, by 10, cut");
        int[][] taxes = {{19, 20, 1}, {20, 20, 2}, {9, 10, 0}, {10, 10, 1}, {99, 0, 4}, {99, 1, 5}, {0, 19, 0}, {0, 20, 1}};
        for (int[] tax : taxes) {
            Run run = Run.told("p0 " + tax[0] + " 0;p0 " + tax[1] + " 0;p1 99 0;l4;");
            run.due(tax[2], "person", 0, 7).due(tax[2], "person", 1, 7).due(9, "person", 2, 7);
        }
        Run.told("p0 29 0;p0 30 0;p0 30 0;").due(2, "person", 2, 7);
        Run.told("p0 30 0;p0 30 0;p0 30 0;").due(3, "person", 2, 7);
    }

    private static void yesAndNo() {
        Due.sentence("BILL: each PERSON says yes, if he is FOR it, else no");
        Run run = Run.told("p0 0 1;p0 0 17;p0 0 0;p1 0 30;p2 0 31;p3 0 15;p3 0 16;l13;");
        run.dueInTurn("bill", new int[] {0}, 4, 3, 1).dueInTurn("bill", new int[] {1}, 3, 4, 0);
        run.dueInTurn("bill", new int[] {3}, 3, 4, 0).dueInTurn("bill", new int[] {4}, 4, 3, 1);
    }

    private static void oneThingOfEachName() {
        Due.sentence("by LAW 2 each NAME says one thing: yes, if more of it say yes than no, no, if more say no, nothing, "
            + "if as many do (or nobody has it)");
        Run run = Run.told("p0 0 1;p0 0 1;p0 0 0;p1 0 1;p1 0 0;p2 0 0;p2 0 1;l2;");
        run.dueInTurn("bill", new int[] {0}, 1, 0, 1).due(0, "names", 1, 3).dueInTurn("bill", new int[] {0}, 1, 0, 1);
        run.due(0, "names", 0, 3).dueInTurn("bill", new int[] {0}, 1, 1, 0);
        run.due(2, "names", 6, 3).dueInTurn("bill", new int[] {0}, 1, 2, 0);
        Run.told("l2;").dueInTurn("bill", new int[] {0}, 0, 0, 0);
        Run.told("n1;p0 0 1;p0 0 1;p0 0 0;p0 0 0;l2;").dueInTurn("bill", new int[] {0}, 0, 0, 0);
    }

    private static void passesByMore() {
        Due.sentence("It PASSES, if there is more yes than no.");
        Run.told("p0 0 1;p1 0 1;p2 0 0;l0;").due(1, "bill", 0, 2);
        Run.told("p0 0 1;p1 0 0;l0;").due(0, "bill", 0, 2);
        Run.told("p0 0 1;p1 0 0;p2 0 0;l0;").due(0, "bill", 0, 2);
        Run.told("p0 0 1;p1 0 1;p2 0 0;l2;").due(1, "bill", 0, 2);
        Run.told("p0 0 1;p1 0 0;l2;").due(0, "bill", 0, 2);
        Run.told("l0;").due(0, "bill", 0, 2);
    }

    private static void hurtsAndHeals() {
        Due.sentence("HURT (1), healed (0): what he was. BAD.");
        Run run = Run.told("p0 0 0;p1 0 0;").due(0, "hurts", 0, 0).due(0, "hurts", 0, 1).due(1, "hurts", 0, 1);
        run.due(1, "now", 3).due(1, "hurts", 0, 0).due(0, "hurts", 0, 0).due(0, "now", 3);
        run.due(-1, "hurts", 0, 2).due(-1, "hurts", 0, -1).due(-1, "hurts", 2, 1).due(-1, "hurts", -1, 1);
        run.due(0, "now", 3).due(5, "now", 7);
    }

    private static void earnedFromLeastToMost() {
        Due.sentence("EARNED: WEALTH is n (-99 .. 99) more");
        Run run = Run.told("p0 50 0;").due(149, "earns", 0, 99).due(50, "earns", 0, -99).due(50, "earns", 0, 0);
        run.due(51, "earns", 0, 1).due(50, "earns", 0, -1);
        run.due(-1, "earns", 0, 100).due(-1, "earns", 0, -100).due(50, "person", 0, 1);
        run.due(-1, "earns", 1, 1).due(-1, "earns", -1, 1).due(5, "now", 7);
    }

    private static void earnedBelowNothing() {
        Due.sentence("0 to 999, what is beyond is not counted: below");
        Run run = Run.told("p0 50 0;").due(0, "earns", 0, -50).due(0, "earns", 0, -1).due(0, "earns", 0, -99);
        run.due(0, "person", 0, 1).due(1, "earns", 0, 1).due(0, "earns", 0, -2).due(3, "earns", 0, 3);
        run.due(5, "undo").due(0, "person", 0, 1);
    }

    private static void earnedBeyond999() {
        Due.sentence("0 to 999, what is beyond is not counted: above");
        Run run = Run.told("p0 99 0;").times(9, "earns", 0, 99).due(990, "person", 0, 1);
        run.due(998, "earns", 0, 8).due(999, "earns", 0, 1).due(999, "earns", 0, 1).due(999, "earns", 0, 99);
        run.due(998, "earns", 0, -1).due(999, "earns", 0, 2).due(900, "earns", 0, -99).due(999, "earns", 0, 99);
        run.due(9, "undo").due(900, "person", 0, 1);
    }

    private static void named() {
        Due.sentence("NAMED: his NAME till then. BAD.");
        Run run = Run.told("n3;p2 0 0;p0 0 0;").due(2, "names", 0, 0).due(0, "names", 0, 0).due(0, "names", 0, 2);
        run.due(2, "person", 0, 0).due(0, "person", 1, 0).due(3, "now", 7);
        run.due(-1, "names", 0, 3).due(-1, "names", 0, -1).due(-1, "names", 2, 0).due(-1, "names", -1, 0);
        run.due(2, "person", 0, 0).due(3, "now", 7);
    }

    private static void lawsSet() {
        Due.sentence("LAWS (0 .. 15) are set: what they were. BAD.");
        Run run = new Run();
        int were = 15;
        for (int set = 0; set <= 15; set++) {
            run.due(were, "laws", set).due(set, "now", 2);
            were = set;
        }
        run.due(-1, "laws", 16).due(-1, "laws", -1).due(15, "now", 2).due(15, "laws", 15);
    }

    private static void taxAsItWasAhead() {
        Due.sentence("each pays TAX, as it was ahead");
        // The mean is 20 till the first has paid; it would be 19 and less then.
        Run run = Run.told("p0 20 0;p0 20 0;p0 20 0;").due(6, "year");
        for (int p = 0; p < 3; p++) {
            run.due(18, "person", p, 1);
        }
        run.due(6, "now", 1).due(3, "year").due(17, "person", 2, 1);
    }

    private static void allHeHas() {
        Due.sentence("or all he has, if that is less");
        Run run = Run.told("p0 99 0;p0 3 0;p0 4 0;p0 5 0;p1 0 0;p1 99 0;");
        // By NAME 0 the mean is 27, its TAX 2; by NAME 1 it is 49, its TAX 4.
        run.due(2, "person", 0, 7).due(4, "person", 4, 7).due(12, "year");
        run.dueInTurn("person", new int[] {4}, 1, 0).due(95, "person", 5, 1).due(1, "person", 1, 1);
        run.due(2, "person", 2, 1).due(3, "person", 3, 1).due(11, "year").due(0, "person", 1, 1);
        run.due(0, "person", 2, 1).due(1, "person", 3, 1).due(7, "year").due(0, "person", 3, 1);
        run.due(6, "year").due(0, "person", 3, 1).due(36, "now", 1);
    }

    private static void theChest() {
        Due.sentence("THE CHEST has what they paid more (.. 0 at first)");
        Run run = Run.told("p0 99 0;p1 50 0;").due(0, "now", 1).due(14, "year").due(14, "now", 1);
        run.due(13, "year").due(27, "now", 1).due(1, "undo").due(14, "now", 1).due(0, "undo").due(0, "now", 1);
        // 999999 are out of reach: seven pay 99 each at most in a year, and there are 999 years.
        Run rich = Run.told("p0 99 0;".repeat(7)).due(0, "now", 1);
        for (int p = 0; p < 7; p++) {
            rich.times(10, "earns", p, 99);
        }
        rich.due(693, "year").due(693, "now", 1).due(630, "year").due(1323, "now", 1);
    }

    private static void yearsOfNobody() {
        Due.sentence("A YEAR: how much TAX was paid; YEARS are counted");
        new Run().due(0, "now", 0).due(0, "year").due(1, "now", 0).due(0, "year").due(2, "now", 0).due(0, "now", 1);
        Run run = Run.told("p0 9 0;").due(0, "year").due(1, "now", 0).due(9, "person", 0, 1).due(0, "undo");
        run.due(0, "now", 0);
    }

    /** Behind the 512 calls that are promised, but the years' own bound all the same. */
    private static void year999() {
        Due.sentence("YEARS are counted (999 at most). STATE: it is YEAR 999.");
        OneJohn x = Due.told("p0 99 0;");
        for (int i = 1; i <= 999; i++) {
            x.earns(0, 99);
            x.year();
            Due.is("years", x.now(0), i);
        }
        int chest = x.now(1);
        int wealth = x.person(0, 1);
        Due.is("year()", x.year(), -2);
        Due.is("years", x.now(0), 999);
        Due.is("the chest", x.now(1), chest);
        Due.is("wealth", x.person(0, 1), wealth);
        Due.is("may be undone", x.now(7), 10);
        Due.is("keep", x.keep(0), 999);
        Due.is("undo", x.undo(), 9);
        Due.is("years", x.now(0), 998);
        Due.is("year() again", x.year() < 0 ? 1 : 0, 0);
        Due.is("back", x.back(0), 999);
        Due.is("year() of the image", x.year(), -2);
    }

    private static void tenAreKnown() {
        Due.sentence("10 are known");
        for (int done = 0; done <= 10; done++) {
            Run run = Run.told("p0 50 0;").times(done, "earns", 0, 1).due(done, "now", 7);
            for (int left = done - 1; left >= 0; left--) {
                run.due(left, "undo").due(left, "now", 7).due(50 + left, "person", 0, 1);
            }
            run.due(-2, "undo").due(0, "now", 7).due(50, "person", 0, 1);
        }
    }

    private static void theOldestAreLost() {
        Due.sentence("10 are known, older ones are lost");
        for (int done = 11; done <= 31; done++) {
            Run run = Run.told("p0 50 0;").times(done, "earns", 0, 1).due(10, "now", 7);
            for (int left = 9; left >= 0; left--) {
                run.due(left, "undo");
            }
            run.due(50 + done - 10, "person", 0, 1).due(-2, "undo").due(50 + done - 10, "person", 0, 1);
        }
    }

    private static void theRowsGoRound() {
        Due.sentence("UNDONE: the latest (10 are known), when some were undone between");
        Run run = Run.told("p0 0 0;").times(7, "earns", 0, 1).times(3, "undo").due(4, "person", 0, 1);
        run.times(9, "earns", 0, 10).due(94, "person", 0, 1).due(10, "now", 7).times(9, "undo").due(4, "person", 0, 1);
        run.due(0, "undo").due(3, "person", 0, 1).due(-2, "undo");
        run.times(12, "earns", 0, 1).times(2, "undo").due(13, "person", 0, 1).due(8, "now", 7);
        run.times(2, "earns", 0, 5).due(10, "now", 7).due(28, "earns", 0, 5).due(10, "now", 7);
        run.times(10, "undo").due(6, "person", 0, 1).due(-2, "undo");
    }

    private static void eachOfSixIsUndone() {
        Due.sentence("UNDONE: the latest hurts(), deeds(), earns(), names(), laws(), year()");
        String text = "n2;p0 50 1;p1 70 3;";
        int[] ahead = {0, 0, 15, 0, 0, 3, 2, 0};
        int[] zero = {0, 50, 1, 0, 0, 0, 0, 5};
        String[] calls = {"hurts", "deeds", "earns", "names", "laws", "year"};
        int[][] numbers = {{0, 1}, {0}, {0, 9}, {0, 1}, {2}, {}};
        for (int i = 0; i < calls.length; i++) {
            Run run = Run.told(text).times(1, calls[i], numbers[i]).due(1, "now", 7).due(0, "undo");
            run.dueInTurn("now", NOTHING, ahead).dueInTurn("person", new int[] {0}, zero);
            run.due(70, "person", 1, 1).due(1, "person", 1, 0).due(-2, "undo");
        }
    }

    private static void whatIsDoneAgainIsUndoneAgain() {
        Due.sentence("UNDONE: the latest .. that was not refused, even if it left all as it was");
        Run run = Run.told("p0 0 0;").due(0, "hurts", 0, 0).due(0, "earns", 0, -9).due(0, "names", 0, 0);
        run.due(15, "laws", 15).due(4, "now", 7).due(3, "undo").due(2, "undo").due(1, "undo").due(0, "undo");
        run.due(-2, "undo");
    }

    private static void onlyThoseSix() {
        Due.sentence("UNDONE: the latest hurts(), deeds(), earns(), names(), laws(), year(), and nothing else");
        Run run = Run.told("n2;p0 50 1;p1 70 3;").due(59, "earns", 0, 9).type("x").due(1, "tells", 0, 1);
        run.due(1, "record", 0, 1).due(0, "keep", 0).due(59, "rate", 0, 0).due(1, "clear").due(2, "forget");
        run.due(-2, "back", 1).due(1, "tells", 1, 1).due(1, "record", 1, 1).type("y").due(1, "now", 7);
        run.due(0, "undo").due(50, "person", 0, 1).due(1, "count", 2).due(1, "count", 3).due(1, "count", 4);
        run.due(1, "trace").due(-2, "undo").due(0, "back", 0).due(59, "person", 0, 1).due(-2, "undo");
    }

    private static void refusedIsNotUndone() {
        Due.sentence("UNDONE: the latest .. that was not refused");
        Run run = Run.told("n2;p0 50 1;").times(99, "deeds", 0).due(7 + 8, "laws", 6).due(10, "now", 7);
        run.due(-1, "hurts", 1, 1).due(-2, "deeds", 0).due(-1, "deeds", 1).due(-1, "earns", 0, 100);
        run.due(-1, "names", 0, 2).due(-1, "laws", 16).due(9, "undo").due(15, "now", 2).due(8, "undo");
        run.due(98, "person", 0, 5);
    }

    private static void undoNone() {
        Due.sentence("UNDONE: how many more may be. STATE: none.");
        new Run().due(-2, "undo").due(15, "laws", 3).due(0, "undo").due(15, "now", 2).due(-2, "undo").due(15, "now", 2);
        new Run().due(15, "laws", 3).due(0, "republic").due(-2, "undo").due(15, "now", 2);
        new Run().due(0, "keep", 0).due(15, "laws", 3).due(0, "back", 0).due(-2, "undo").due(15, "now", 2);
        new Run().due(15, "laws", 3).type("x").due(-10, "republic").due(0, "undo").due(15, "now", 2);
    }

    private static void ofAPerson() {
        Due.sentence("Of a PERSON: 0 NAME .. 7 TAX. BAD.");
        Run run = Run.told("p3 40 9;p3 60 2;").due(0, "hurts", 1, 1).due(1, "deeds", 1).due(2, "deeds", 1);
        run.dueInTurn("person", new int[] {0}, 3, 40, 9, 0, 1, 0, 2, 5, -1);
        run.dueInTurn("person", new int[] {1}, 3, 60, 2, 1, 1, 2, 2, 5, -1);
        run.due(-1, "person", 0, -1).due(-1, "person", 2, 0).due(-1, "person", -1, 0).due(-1, "person", 2, 8);
    }

    private static void now() {
        Due.sentence("0 YEARS .. 7 how many may be UNDONE. BAD.");
        Run run = Run.told("n3;p0 90 0;p0 10 0;p1 99 0;q1 0;").due(0, "hurts", 1, 1).due(5 + 5 + 9, "year").due(15, "laws", 7);
        run.dueInTurn("now", NOTHING, 1, 19, 7, 3, 1, 4, 6, 3, -1).due(-1, "now", -1);
    }
}
