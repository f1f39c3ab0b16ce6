/** Promises 17 and 18: who should be named otherwise, and what name costs one least. */
public final class NamesTest {
    public static void main(String[] args) {
        apart();
        none();
        fewestThenFirst();
        cheapest();
        Due.end();
    }

    private static void way(String text, int many, int... names) {
        OneJohn x = Due.told(text);
        Due.is(text + " how many", x.apart(-1), many);
        for (int p = 0; p < names.length; p++) {
            Due.is(text + " name of " + p, x.apart(p), names[p]);
        }
        Due.is(text + " nobody", x.apart(names.length), -1);
        Due.is(text + " -2", x.apart(-2), -1);
        Due.is(text + " least", x.apart(Integer.MIN_VALUE), -1);
        Due.is(text + " most", x.apart(Integer.MAX_VALUE), -1);
        for (int p = 0; p < names.length && many >= 0; p++) {
            x.names(p, names[p]);
        }
        Due.is(text + " bad ones then", many < 0 ? 0 : x.now(4), 0);
    }

    private static void apart() {
        way("", 0);
        way("n3;p2 0 0;p2 0 0;p1 0 0;", 0, 2, 2, 1);
        way("n2;p0 0 0;p0 0 0;q0 1;", 1, 0, 1);
        way("n3;p1 0 0;p1 0 0;p1 0 0;q0 1;q1 2;q2 0;", 2, 0, 1, 2);
        way("n3;p0 90 3;p0 35 5;p1 60 6;p0 7 24;p1 44 1;p2 99 7;q0 1;q2 4;q0 3;", 2, 1, 0, 0, 0, 1, 2);
    }

    private static void none() {
        way("n1;p0 0 0;p0 0 0;q0 1;", -9, -9, -9);
        way("n2;p0 0 0;p0 0 0;p0 0 0;p1 0 0;q0 1;q1 2;q2 0;", -9, -9, -9, -9, -9);
        way("p0 0 0;p1 0 0;p2 0 0;p3 0 0;p0 0 0;q0 1;q0 2;q0 3;q0 4;q1 2;q1 3;q1 4;q2 3;q2 4;q3 4;",
            -9, -9, -9, -9, -9, -9);
    }

    private static void fewestThenFirst() {
        // To rename the hub alone is one; the leaves would be three.
        way("n2;p0 0 0;p0 0 0;p0 0 0;p0 0 0;q3 0;q3 1;q3 2;", 1, 0, 0, 0, 1);
        way("n2;p1 0 0;p1 0 0;q0 1;", 1, 0, 1);
        way("n4;p3 0 0;p3 0 0;p3 0 0;p3 0 0;p3 0 0;p3 0 0;p3 0 0;q5 6;", 1, 3, 3, 3, 3, 3, 0, 3);
    }

    private static void cheapest() {
        OneJohn x = Due.told("n3;p0 99 0;p0 0 0;p1 20 0;");
        // 99: alone 9; with 0: 4; with 20: 5.
        Due.is("the rich", x.cheapest(0), 0);
        // 0: with 99 4; with 20 1; alone 0.
        Due.is("the poor", x.cheapest(1), 2);
        // 20: with 99 and 0: 3; alone 2 by its own name and by name 2.
        Due.is("the lowest of several", x.cheapest(2), 1);
        x.laws(11);
        for (int p = 0; p < 3; p++) {
            Due.is("all are alike without law 4", x.cheapest(p), 0);
        }
        Due.is("nobody", x.cheapest(3), -1);
        Due.is("nobody -1", x.cheapest(-1), -1);
        Due.is("nothing is changed", x.person(1, 0), 0);
    }
}
