/** The fourth part of the terms, and promises 26 to 28 and 30: each sentence that names an edge. */
public final class KindsEdgesTest {
    private static final int[] NOTHING = {};

    public static void main(String[] args) {
        person();
        john();
        mary();
        sailor();
        twin();
        heir();
        eachBodyOnce();
        traceAtFirst();
        rateRefused();
        rateAtItsEnds();
        imagesKeepNow();
        imagesKeepNothingElse();
        imagesAreTwo();
        imagesAreNotNow();
        nothingIsUndoneBehindBack();
        kept();
        noneWasKept();
        imagesAreGoneBehindReadAnew();
        trace();
        Due.end();
    }

    /** Two of one NAME, behind two YEARS: WEALTH 48 and 84, DEEDS 2 and 1, FAME 3, TAX 6. */
    private static Run two() {
        Run run = Run.told("p1 63 0;p1 99 0;").times(2, "deeds", 0).due(3, "deeds", 1).due(16, "year").due(14, "year");
        return run.due(48, "person", 0, 1).due(84, "person", 1, 1).due(6, "person", 0, 7);
    }

    private static void person() {
        Due.sentence("PERSON his WEALTH (1)");
        two().due(48, "rate", 0, 0).due(1, "trace").due(84, "rate", 0, 1).due(2, "trace");
    }

    private static void john() {
        Due.sentence("JOHN up, and his FAME (10)");
        two().due(51, "rate", 1, 0).due(11, "trace").due(15, "laws", 7).due(50, "rate", 1, 0).due(85, "rate", 1, 1);
    }

    private static void mary() {
        Due.sentence("MARY up less his TAX (100)");
        two().due(42, "rate", 2, 0).due(101, "trace").due(15, "laws", 11).due(44, "rate", 2, 0).due(76, "rate", 2, 1);
    }

    private static void sailor() {
        Due.sentence("SAILOR twice up (1000): under JOHN");
        two().due(102, "rate", 3, 0).due(1011, "trace").due(174, "rate", 3, 1).due(2022, "trace");
    }

    private static void twin() {
        Due.sentence("TWIN up, and his number (10000): under MARY");
        two().due(42, "rate", 4, 0).due(10101, "trace").due(79, "rate", 4, 1).due(20202, "trace");
    }

    private static void heir() {
        Due.sentence("HEIR up, and YEARS (100000): under PERSON");
        two().due(50, "rate", 5, 0).due(100001, "trace").due(86, "rate", 5, 1).due(200002, "trace");
    }

    private static void eachBodyOnce() {
        Due.sentence("added to THE TRACE .. as often as rate() asks that body: each once");
        int[] marks = {1, 11, 101, 1011, 10101, 100001};
        for (int kind = 0; kind <= 5; kind++) {
            Run run = Run.told("p0 9 0;");
            for (int often = 1; often <= 3; often++) {
                run.times(1, "rate", kind, 0).due((long) often * marks[kind], "trace");
            }
        }
    }

    private static void traceAtFirst() {
        Due.sentence("THE TRACE, 0 at first");
        new Run().due(0, "trace").due(0, "trace");
        Run.told("p0 9 0;").due(0, "trace");
    }

    private static void rateRefused() {
        Due.sentence("RATE. NO: BAD.");
        Run run = Run.told("p0 9 0;p0 9 0;").due(9, "rate", 0, 0).due(9, "rate", 0, 1).due(9, "rate", 5, 1);
        run.due(-1000000, "rate", 6, 0).due(-1000000, "rate", -1, 0).due(-1000000, "rate", 0, 2);
        run.due(-1000000, "rate", 0, -1).due(-1000000, "rate", 6, 2).due(-1000000, "rate", 5, 2).due(100003, "trace");
        run.due(-1000000, "rate", Integer.MAX_VALUE, 0).due(-1000000, "rate", 0, Integer.MIN_VALUE).due(100003, "trace");
    }

    private static void rateAtItsEnds() {
        Due.sentence("NO: What none is, where a number may be below 0: a rate may be");
        Run run = Run.told("p0 0 0;p0 99 0;").times(9, "earns", 1, 99).due(-49, "rate", 2, 0).due(-49, "rate", 4, 0);
        run.due(0, "rate", 0, 0).due(0, "rate", 5, 0);
        Run one = Run.told("p0 0 0;p0 20 0;").due(-1, "rate", 2, 0).due(-1, "rate", 4, 0).due(20, "rate", 4, 1);
        one.due(101 + 2 * 10101, "trace");
        Run most = Run.told("p0 99 0;").times(10, "earns", 0, 99).times(99, "deeds", 0);
        most.due(2 * (999 + 99), "rate", 3, 0).due(900, "rate", 2, 0).due(999, "rate", 5, 0);
    }

    private static void changeAll(Run run) {
        run.times(1, "names", 0, 2).times(1, "earns", 1, -40).times(1, "deeds", 2).times(1, "hurts", 2, 1);
        run.times(1, "laws", 6).times(1, "year");
    }

    private static void imagesKeepNow() {
        Due.sentence("IMAGES 0, 1 keep NOW (NAMES of all, WEALTH, DEEDS, who is HURT, LAWS, THE CHEST, YEARS)");
        for (int image = 0; image <= 1; image++) {
            Run run = Run.told("n3;p0 50 1;p1 90 2;p1 20 3;q1 2;").due(14 + 1, "year").due(1, "deeds", 0);
            run.due(0, "hurts", 0, 1).due(1, "keep", image).due(3, "now", 7);
            changeAll(run);
            run.due(2, "now", 0).due(1, "back", image);
            run.dueInTurn("person", new int[] {0}, 0, 45, 1, 1, 1, 1, 1, 4);
            run.dueInTurn("person", new int[] {1}, 1, 85, 2, 0, 0, 0, 0, 5);
            run.dueInTurn("person", new int[] {2}, 1, 15, 3, 0, 0, 0, 0, 5);
            run.dueInTurn("now", NOTHING, 1, 15, 15, 1, 1, 1, 4, 0);
        }
    }

    private static void imagesKeepNothingElse() {
        Due.sentence("IMAGES .. keep .. nothing else");
        Run run = Run.told("p0 50 1;").due(0, "keep", 0).type("xy").due(1, "tells", 0, 1).due(1, "record", 1, 1);
        run.due(2, "record", 1, 1).due(50, "rate", 0, 0).due(0, "keep", 1).due(0, "back", 0);
        run.dueInTurn("count", NOTHING, 4, 1, 1, 2, 2).due(1, "trace").due(0, "back", 1).due(1, "who");
    }

    private static void imagesAreTwo() {
        Due.sentence("IMAGES 0, 1: each its own");
        Run run = new Run().due(15, "laws", 4).due(0, "keep", 0).due(4, "laws", 9).due(0, "keep", 1).due(9, "laws", 2);
        run.due(0, "back", 0).due(4, "now", 2).due(0, "back", 1).due(9, "now", 2).due(0, "back", 0).due(4, "now", 2);
    }

    private static void imagesAreNotNow() {
        Due.sentence("All of that becomes as an IMAGE has it: the IMAGE stays as it was kept");
        Run run = Run.told("p0 50 1;").due(0, "keep", 0).due(0, "back", 0);
        run.due(0, "hurts", 0, 1).due(1, "deeds", 0).due(59, "earns", 0, 9).due(0, "names", 0, 1).due(15, "laws", 0);
        run.due(5, "year").due(0, "back", 0).dueInTurn("person", new int[] {0}, 0, 50, 1, 0, 0, 0, 0, 5);
        run.dueInTurn("now", NOTHING, 0, 0, 15, 0, 0, 1, 0, 0);
        run.due(0, "keep", 0).due(15, "laws", 7).due(0, "undo").due(15, "now", 2).due(0, "back", 0).due(15, "now", 2);
    }

    private static void nothingIsUndoneBehindBack() {
        Due.sentence("nothing can be UNDONE behind back()");
        Run run = new Run().due(15, "laws", 4).due(0, "keep", 0).due(1, "now", 7).due(4, "laws", 5).due(2, "now", 7);
        run.due(0, "back", 0).due(0, "now", 7).due(-2, "undo").due(4, "now", 2).due(4, "laws", 3).due(1, "now", 7);
        run.due(0, "undo").due(4, "now", 2).due(-2, "undo");
        Run full = new Run().due(0, "keep", 1).times(12, "laws", 5).due(10, "now", 7).due(0, "back", 1);
        full.due(0, "now", 7).due(-2, "undo");
    }

    private static void kept() {
        Due.sentence("An IMAGE is kept: YEARS. BAD.");
        Run run = new Run().due(0, "keep", 0).due(0, "year").due(1, "keep", 1).due(0, "year").due(2, "keep", 0);
        run.due(-1, "keep", 2).due(-1, "keep", -1).due(1, "back", 1).due(2, "back", 0).due(2, "now", 0);
        run.due(-1, "keep", Integer.MAX_VALUE).due(-1, "keep", Integer.MIN_VALUE);
    }

    private static void noneWasKept() {
        Due.sentence("YEARS. BAD; STATE: none was kept.");
        Run run = new Run().due(-2, "back", 0).due(-2, "back", 1).due(-1, "back", 2).due(-1, "back", -1);
        run.due(15, "laws", 1).due(0, "keep", 1).due(-2, "back", 0).due(1, "now", 7).due(0, "back", 1).due(0, "now", 7);
        run.due(0, "keep", 0).due(0, "back", 0).due(-1, "back", 2).due(-1, "back", -1);
    }

    private static void imagesAreGoneBehindReadAnew() {
        Due.sentence("Read anew: .. IMAGES are gone");
        Run run = new Run().due(0, "keep", 0).due(0, "keep", 1).type("x").due(-10, "republic").due(0, "back", 0);
        run.due(0, "back", 1).due(1, "clear").due(0, "republic").due(-2, "back", 0).due(-2, "back", 1);
        run.due(0, "keep", 0).due(0, "back", 0).due(-2, "back", 1);
    }

    private static void trace() {
        Due.sentence("THE TRACE.");
        Run run = Run.told("p0 9 0;").times(100, "rate", 5, 0).due(10000100, "trace").times(100, "rate", 3, 0);
        run.due(10101200, "trace").due(0, "keep", 0).due(0, "back", 0).due(10101200, "trace").due(0, "clear");
        run.due(15, "laws", 3).due(0, "undo").due(0, "forget").due(10101200, "trace");
    }
}
