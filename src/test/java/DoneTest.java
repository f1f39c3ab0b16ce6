/** Promises 10 to 16: what is done, and undone. */
public final class DoneTest {
    public static void main(String[] args) {
        hurts();
        deeds();
        earns();
        names();
        laws();
        years();
        lastYear();
        undo();
        refusedIsNotKnown();
        Due.end();
    }

    private static void hurts() {
        OneJohn x = Due.told("p0 0 0;p0 0 0;p1 0 0;");
        Due.is("hurt", x.hurts(1, 1), 0);
        Due.is("hurt again", x.hurts(1, 1), 1);
        Due.is("again is known too", x.now(7), 2);
        Due.is("limps", x.now(3), 3);
        Due.is("another", x.hurts(2, 1), 0);
        Due.is("healed", x.hurts(1, 0), 1);
        Due.is("limps then", x.now(3), 4);
        Due.is("healed again", x.hurts(1, 0), 0);
        Due.is("nobody 3", x.hurts(3, 1), -1);
        Due.is("nobody -1", x.hurts(-1, 1), -1);
        Due.is("2", x.hurts(0, 2), -1);
        Due.is("-1", x.hurts(0, -1), -1);
        Due.is("least", x.hurts(0, Integer.MIN_VALUE), -1);
    }

    private static void deeds() {
        OneJohn x = Due.told("p0 0 0;p0 0 0;p1 0 0;");
        Due.is("his first", x.deeds(0), 1);
        Due.is("by law 8 theirs", x.deeds(1), 2);
        Due.is("another name", x.deeds(2), 1);
        x.laws(7);
        Due.is("his own", x.deeds(1), 2);
        for (int i = 3; i <= 99; i++) {
            Due.is("deed " + i, x.deeds(1), i);
        }
        Due.is("he did 99", x.deeds(1), -2);
        Due.is("99 stay", x.person(1, 5), 99);
        Due.is("nobody", x.deeds(3), -1);
        Due.is("nobody -1", x.deeds(-1), -1);
        Due.is("undone", x.undo(), 9);
        Due.is("98 then", x.person(1, 5), 98);
    }

    private static void earns() {
        OneJohn x = Due.told("p0 50 0;");
        Due.is("more", x.earns(0, 99), 149);
        Due.is("less", x.earns(0, -99), 50);
        Due.is("as it is", x.earns(0, 0), 50);
        Due.is("below 0", x.earns(0, -51), 0);
        for (int i = 1; i <= 10; i++) {
            Due.is("99 more", x.earns(0, 99), 99 * i);
        }
        Due.is("9 more", x.earns(0, 9), 999);
        Due.is("beyond 999", x.earns(0, 1), 999);
        Due.is("100", x.earns(0, 100), -1);
        Due.is("-100", x.earns(0, -100), -1);
        Due.is("most", x.earns(0, Integer.MAX_VALUE), -1);
        Due.is("least", x.earns(0, Integer.MIN_VALUE), -1);
        Due.is("nobody", x.earns(1, 1), -1);
        Due.is("nobody -1", x.earns(-1, 1), -1);
        Due.is("tax of 999", x.person(0, 7), 99);
    }

    private static void names() {
        OneJohn x = Due.told("n3;p0 50 0;p2 0 0;");
        Due.is("named", x.names(0, 2), 0);
        Due.is("so", x.person(0, 0), 2);
        Due.is("the same", x.names(0, 2), 2);
        Due.is("of name 2", x.name(2, 0), 3);
        Due.is("name 3", x.names(0, 3), -1);
        Due.is("name -1", x.names(0, -1), -1);
        Due.is("nobody", x.names(2, 0), -1);
        Due.is("nobody -1", x.names(-1, 0), -1);
        Due.is("two are known", x.now(7), 2);
    }

    private static void laws() {
        OneJohn x = new OneJohn();
        Due.is("15 at first", x.laws(0), 15);
        Due.is("0 then", x.laws(15), 0);
        Due.is("16", x.laws(16), -1);
        Due.is("-1", x.laws(-1), -1);
        Due.is("15 stay", x.now(2), 15);
    }

    private static void years() {
        OneJohn x = Due.told("n2;p0 99 0;p0 5 0;p1 33 0;p0 0 0;");
        // Name 0 has 104 by 3: each pays 3, or all he has.
        Due.is("paid", x.year(), 3 + 3 + 3 + 0);
        int[] wealth = {96, 2, 30, 0};
        for (int p = 0; p < wealth.length; p++) {
            Due.is("wealth " + p, x.person(p, 1), wealth[p]);
        }
        Due.is("paid then", x.year(), 3 + 2 + 3 + 0);
        Due.is("the chest", x.now(1), 17);
        Due.is("years", x.now(0), 2);
        Due.is("undone", x.undo(), 1);
        Due.is("the chest undone", x.now(1), 9);
        Due.is("years undone", x.now(0), 1);
        Due.is("wealth undone", x.person(1, 1), 2);
        x.laws(11);
        Due.is("each his own", x.year(), 9 + 0 + 3 + 0);
    }

    /** Far beyond the calls that are promised: the program's own limit of years holds all the same. */
    private static void lastYear() {
        OneJohn x = new OneJohn();
        for (int i = 0; i < 999; i++) {
            Due.is("year " + i, x.year(), 0);
        }
        Due.is("year 999", x.year(), -2);
        Due.is("years", x.now(0), 999);
        Due.is("the refused one is not known", x.undo(), 9);
        Due.is("years undone", x.now(0), 998);
    }

    private static void undo() {
        OneJohn x = Due.told("n2;p0 99 0;p0 5 0;p1 33 0;");
        Due.is("nothing yet", x.undo(), -2);
        x.hurts(0, 1);
        x.deeds(1);
        x.earns(2, 7);
        x.names(0, 1);
        x.laws(3);
        x.year();
        Due.is("six", x.now(7), 6);
        Due.is("the year", x.undo(), 5);
        Due.is("no chest", x.now(1), 0);
        Due.is("the laws", x.undo(), 4);
        Due.is("all laws", x.now(2), 15);
        Due.is("the name", x.undo(), 3);
        Due.is("name 0", x.person(0, 0), 0);
        Due.is("earned", x.undo(), 2);
        Due.is("33", x.person(2, 1), 33);
        Due.is("the deed", x.undo(), 1);
        Due.is("no deed", x.person(1, 5), 0);
        Due.is("the hurt", x.undo(), 0);
        Due.is("nobody", x.now(3), 0);
        Due.is("no more", x.undo(), -2);
        for (int i = 1; i <= 13; i++) {
            x.earns(0, -i);
            Due.is("known " + i, x.now(7), Math.min(i, 10));
        }
        for (int i = 9; i >= 0; i--) {
            Due.is("of many, left " + i, x.undo(), i);
        }
        Due.is("three are lost", x.person(0, 1), 99 - 1 - 2 - 3);
        Due.is("lost", x.undo(), -2);
    }

    private static void refusedIsNotKnown() {
        OneJohn x = Due.told("p0 9 0;");
        x.hurts(1, 0);
        x.hurts(0, 3);
        x.deeds(1);
        x.earns(0, 100);
        x.names(0, 4);
        x.laws(16);
        x.tells(0, 1);
        x.record(0, 1);
        x.keep(0);
        Due.is("none of these", x.now(7), 0);
        x.laws(2);
        x.forget();
        Due.is("one", x.undo(), 0);
    }
}
