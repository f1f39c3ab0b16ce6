/** Promises 5 to 9: what is asked of people, names, bills and of now. */
public final class PeopleTest {
    private static final String SIX =
        "n3;p0 90 3;p0 35 5;p1 60 6;p0 7 24;p1 44 1;p2 99 7;q0 1;q2 4;q0 3;";

    public static void main(String[] args) {
        persons();
        quarrels();
        meanWealth();
        bills();
        sway();
        nows();
        restless();
        Due.end();
    }

    private static void persons() {
        OneJohn x = Due.told(SIX);
        x.hurts(3, 1);
        x.deeds(0);
        x.deeds(1);
        x.deeds(1);
        int[] byAllLaws = {0, 90, 3, 0, 1, 1, 3, 4};
        for (int what = 0; what < byAllLaws.length; what++) {
            Due.is("all laws: person 0, " + what, x.person(0, what), byAllLaws[what]);
        }
        x.laws(0);
        int[] byNoLaw = {0, 90, 3, 0, 0, 1, 1, 9};
        for (int what = 0; what < byNoLaw.length; what++) {
            Due.is("no law: person 0, " + what, x.person(0, what), byNoLaw[what]);
        }
        x.laws(1);
        Due.is("law 1 alone: limps", x.person(0, 4), 1);
        Due.is("law 1 alone: fame", x.person(0, 6), 1);
        Due.is("law 1 alone: tax", x.person(0, 7), 9);
        x.laws(8);
        Due.is("law 8 alone: limps", x.person(0, 4), 0);
        Due.is("law 8 alone: fame", x.person(0, 6), 3);
        Due.is("law 8 alone: fame of another name", x.person(2, 6), 0);
        x.laws(4);
        Due.is("law 4 alone: tax", x.person(5, 7), 9);
        Due.is("law 4 alone: tax of three", x.person(3, 7), 4);
        Due.is("law 4 alone: fame", x.person(0, 6), 1);
        Due.is("hurt", x.person(3, 3), 1);
        Due.is("limps", x.person(3, 4), 1);
        wrong("person", x.person(6, 0), x.person(-1, 0), x.person(0, 8), x.person(0, -1),
            x.person(Integer.MAX_VALUE, 0), x.person(Integer.MIN_VALUE, 0), x.person(0, Integer.MIN_VALUE));
    }

    private static void wrong(String call, int... answers) {
        for (int i = 0; i < answers.length; i++) {
            Due.is(call + ", wrong input " + i, answers[i], -1);
        }
    }

    private static void quarrels() {
        OneJohn x = Due.told(SIX);
        int[] due = {10, 1, 16, 1, 4, 0};
        for (int p = 0; p < due.length; p++) {
            Due.is("quarrels " + p, x.quarrels(p), due[p]);
        }
        wrong("quarrels", x.quarrels(-1), x.quarrels(6), x.quarrels(7), x.quarrels(Integer.MIN_VALUE));
    }

    private static void meanWealth() {
        OneJohn x = Due.told("n4;p0 1 0;p0 2 0;p1 0 0;p1 0 0;p2 3 0;p2 7 0;p2 2 0;");
        int[][] due = {{3, 3, 2}, {12, 0, 1}, {112, 4, 1}, {0, 0, 1}};
        for (int k = 0; k < due.length; k++) {
            for (int what = 0; what < 3; what++) {
                Due.is("name " + k + ", " + what, x.name(k, what), due[k][what]);
            }
        }
        wrong("name", x.name(4, 0), x.name(-1, 0), x.name(0, 3), x.name(0, -1), x.name(Integer.MAX_VALUE, 1));
    }

    private static void bills() {
        OneJohn x = Due.told("n3;p0 0 1;p0 0 1;p0 0 0;p1 0 1;p1 0 0;p2 0 0;p2 0 16;l2;");
        Due.is("by names: yes", x.bill(0, 0), 1);
        Due.is("by names: no", x.bill(0, 1), 1);
        Due.is("as many: does not pass", x.bill(0, 2), 0);
        x.laws(13);
        Due.is("by heads: yes", x.bill(0, 0), 3);
        Due.is("by heads: no", x.bill(0, 1), 4);
        Due.is("by heads: does not pass", x.bill(0, 2), 0);
        Due.is("bill 4, yes", x.bill(4, 0), 1);
        Due.is("bill 4, no", x.bill(4, 1), 6);
        x.laws(2);
        Due.is("bill 4, yes by names", x.bill(4, 0), 0);
        Due.is("bill 4, no by names", x.bill(4, 1), 2);
        OneJohn most = Due.told("n2;p0 0 1;p0 0 1;p0 0 0;p1 0 0;p1 0 0;l0;");
        Due.is("heads: 2 of 5", most.bill(0, 2), 0);
        most.names(3, 0);
        most.laws(2);
        Due.is("names: one nothing, one no", most.bill(0, 0), 0);
        Due.is("names: one no", most.bill(0, 1), 1);
        wrong("bill", x.bill(5, 0), x.bill(-1, 0), x.bill(0, 4), x.bill(0, -1), x.bill(Integer.MIN_VALUE, 3));
    }

    private static void sway() {
        OneJohn x = Due.told("n4;p0 0 1;p0 0 1;p1 0 0;p2 0 0;p3 0 1;l0;");
        Due.is("3 yes, 2 no: passes", x.bill(0, 2), 1);
        Due.is("without name 0 it fails, without 3 too", x.bill(0, 3), 9);
        x.laws(2);
        Due.is("2 yes, 2 no", x.bill(0, 2), 0);
        Due.is("without a no it passes", x.bill(0, 3), 6);
        Due.is("nobody is for bill 1", x.bill(1, 3), 0);
    }

    private static void nows() {
        OneJohn x = Due.told(SIX);
        int[] due = {0, 0, 15, 0, 3, 32, 60, 0};
        for (int what = 0; what < due.length; what++) {
            Due.is("now " + what, x.now(what), due[what]);
        }
        x.hurts(2, 1);
        Due.is("limps", x.now(3), 20);
        x.year();
        Due.is("years", x.now(0), 1);
        Due.is("chest", x.now(1), 4 * 3 + 5 * 2 + 9);
        Due.is("undone", x.now(7), 2);
        x.laws(3);
        Due.is("laws", x.now(2), 3);
        x.names(0, 2);
        Due.is("bad ones", x.now(4), 1);
        Due.is("alone", x.now(5), 0);
        wrong("now", x.now(-1), x.now(8), x.now(Integer.MAX_VALUE), x.now(Integer.MIN_VALUE));
    }

    private static void restless() {
        OneJohn x = Due.told("n2;p0 99 0;p0 0 0;p1 20 0;");
        Due.is("99 with 0 has 4, with 20 5; 0 pays 1 by the other name; 20 pays 3", x.now(6), 2);
        x.laws(11);
        Due.is("without law 4 no name is better", x.now(6), 0);
    }
}
