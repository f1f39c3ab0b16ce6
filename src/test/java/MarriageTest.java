/** Promises 24 and 25: marriages and odds. */
public final class MarriageTest {
    public static void main(String[] args) {
        marriages();
        odds();
        wrongOdds();
        Due.end();
    }

    private static void way(String text, int many, int... mates) {
        OneJohn x = Due.told(text);
        Due.is(text + " how many", x.married(-1), many);
        for (int p = 0; p < mates.length; p++) {
            Due.is(text + " mate of " + p, x.married(p), mates[p]);
        }
        Due.is(text + " nobody", x.married(mates.length), -1);
        Due.is(text + " -2", x.married(-2), -1);
        Due.is(text + " least", x.married(Integer.MIN_VALUE), -1);
        Due.is(text + " most", x.married(Integer.MAX_VALUE), -1);
    }

    private static void marriages() {
        way("", 0);
        way("p0 0 0;", 0, -9);
        way("p0 0 0;p0 0 0;", 0, -9, -9);
        way("p0 0 0;p1 0 0;", 1, 1, 0);
        way("p0 0 0;p1 0 0;q1 0;", 0, -9, -9);
        way("p0 0 0;p1 0 0;p2 0 0;", 1, 1, 0, -9);
        // 0 can't have 1, lest 2 and 3 (of one name) be alone.
        way("p0 0 0;p1 0 0;p2 0 0;p2 0 0;", 2, 2, 3, 0, 1);
        // 0 quarrels with all, so he is alone.
        way("p0 0 0;p1 0 0;p2 0 0;q0 1;q0 2;", 1, -9, 2, 1);
        way("p0 0 0;p0 0 0;p0 0 0;p0 0 0;p1 0 0;", 1, 4, -9, -9, -9, 0);
        way("p0 0 0;p1 0 0;p2 0 0;p3 0 0;p0 0 0;p1 0 0;p2 0 0;", 3, 1, 0, 3, 2, 5, 4, -9);
        OneJohn x = Due.told("p0 0 0;p1 0 0;");
        x.names(1, 0);
        Due.is("as things are now", x.married(-1), 0);
        Due.is("then alone", x.married(1), -9);
    }

    private static void fraction(OneJohn x, int k, int n, int v, int upper, int lower) {
        String asked = "odds " + k + " " + n + " " + v;
        Due.is(asked + " upper", x.odds(k, n, v, 0), upper);
        Due.is(asked + " lower", x.odds(k, n, v, 1), lower);
    }

    private static void odds() {
        OneJohn x = Due.told("n4;p0 0 0;p0 0 0;p1 0 0;");
        fraction(x, 0, 0, 0, 1, 1);
        fraction(x, 0, 0, 2, 1, 1);
        fraction(x, 0, 0, 3, 0, 1);
        fraction(x, 0, 1, 3, 1, 4);
        fraction(x, 0, 6, 8, 1, 4096);
        fraction(x, 0, 6, 9, 0, 1);
        fraction(x, 3, 2, 1, 7, 16);
        fraction(x, 2, 6, 20, 0, 1);
        OneJohn two = Due.told("n2;p0 0 0;");
        fraction(two, 0, 2, 2, 3, 4);
        fraction(two, 1, 3, 2, 1, 2);
        OneJohn one = Due.told("n1;");
        fraction(one, 0, 6, 6, 1, 1);
        fraction(one, 0, 6, 7, 0, 1);
        fraction(one, 0, 0, 0, 1, 1);
    }

    private static void wrongOdds() {
        OneJohn x = Due.told("n2;p0 0 0;");
        int[][] asked = {{2, 0, 0, 0}, {-1, 0, 0, 0}, {0, 7, 0, 0}, {0, -1, 0, 0}, {0, 0, 21, 0}, {0, 0, -1, 0},
            {0, 0, 0, 2}, {0, 0, 0, -1}, {Integer.MAX_VALUE, 0, 0, 0}, {0, Integer.MAX_VALUE, 0, 0},
            {0, 0, Integer.MIN_VALUE, 0}};
        for (int[] a : asked) {
            Due.is("wrong odds " + a[0] + " " + a[1] + " " + a[2] + " " + a[3], x.odds(a[0], a[1], a[2], a[3]), -1);
        }
    }
}
