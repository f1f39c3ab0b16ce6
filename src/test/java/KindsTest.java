/** Promises 26 to 30: kinds, images, the trace. */
public final class KindsTest {
    public static void main(String[] args) {
        rates();
        images();
        Due.end();
    }

    private static void rates() {
        OneJohn x = Due.told("n2;p0 50 0;p1 10 0;p1 95 0;");
        x.year();
        x.year();
        x.deeds(1);
        x.deeds(2);
        // PERSON 2: WEALTH 95 less 5 less 4, FAME 2, TAX by the mean of 1 and 86: 4.
        int[] due = {86, 88, 82, 176, 84, 88};
        long[] marks = {1, 11, 101, 1011, 10101, 100001};
        long trace = 0;
        for (int kind = 0; kind < due.length; kind++) {
            Due.is("rate " + kind, x.rate(kind, 2), due[kind]);
            trace += marks[kind];
            Due.is("trace " + kind, x.trace(), trace);
        }
        Due.is("kind 6", x.rate(6, 0), -1000000);
        Due.is("kind -1", x.rate(-1, 0), -1000000);
        Due.is("nobody", x.rate(0, 3), -1000000);
        Due.is("nobody -1", x.rate(5, -1), -1000000);
        Due.is("the refused leave no trace", x.trace(), trace);
        x.undo();
        x.clear();
        Due.is("the trace is not undone", x.trace(), trace);
        OneJohn poor = Due.told("n1;p0 0 0;p0 99 0;");
        Due.is("a rate below 0", poor.rate(2, 0), -4);
    }

    private static void images() {
        OneJohn x = Due.told("n3;p0 50 3;p1 10 1;p1 95 0;q0 1;");
        Due.is("none kept", x.back(0), -2);
        Due.is("kept", x.keep(0), 0);
        x.hurts(0, 1);
        x.deeds(1);
        x.names(2, 2);
        x.laws(9);
        x.year();
        x.tells(0, 1);
        x.record(0, 0);
        x.rate(0, 0);
        Due.is("kept in year 1", x.keep(1), 1);
        Due.is("keep is nothing to undo", x.now(7), 5);
        Due.is("back", x.back(0), 0);
        int[] nows = {0, 0, 15, 0, 0, 1, 2, 0};
        for (int what = 0; what < nows.length; what++) {
            Due.is("back: now " + what, x.now(what), nows[what]);
        }
        Due.is("back: name", x.person(2, 0), 1);
        Due.is("back: wealth", x.person(2, 1), 95);
        Due.is("back: deeds", x.person(1, 5), 0);
        Due.is("told stays", x.count(2), 1);
        Due.is("the record stays", x.count(3), 1);
        Due.is("the trace stays", x.trace(), 1);
        Due.is("nothing to undo", x.undo(), -2);
        Due.is("forth", x.back(1), 1);
        Due.is("hurt", x.now(3), 1);
        Due.is("laws", x.now(2), 9);
        Due.is("chest", x.now(1), 5 + 1 + 9);
        Due.is("name", x.person(2, 0), 2);
        Due.is("deeds", x.person(1, 5), 1);
        x.laws(0);
        Due.is("the image is no part of now", x.back(1), 1);
        Due.is("its laws", x.now(2), 9);
        Due.is("kept anew", x.keep(0), 1);
        Due.is("so", x.back(0), 1);
        int[] wrong = {-1, 2, Integer.MAX_VALUE, Integer.MIN_VALUE};
        for (int image : wrong) {
            Due.is("keep " + image, x.keep(image), -1);
            Due.is("back " + image, x.back(image), -1);
        }
    }
}
