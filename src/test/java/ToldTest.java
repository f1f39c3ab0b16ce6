/** Promises 19 to 23: what was told, and what follows of it. */
public final class ToldTest {
    public static void main(String[] args) {
        tells();
        records();
        who();
        which();
        Due.end();
    }

    private static void tells() {
        OneJohn x = Due.told("p0 0 0;p0 0 0;");
        Due.is("p 2", x.tells(2, 0), -1);
        Due.is("p -1", x.tells(-1, 0), -1);
        Due.is("is 2", x.tells(0, 2), -1);
        Due.is("is -1", x.tells(0, -1), -1);
        for (int i = 1; i <= 6; i++) {
            Due.is("told " + i, x.tells(i % 2, 0), i);
        }
        Due.is("full", x.tells(0, 0), -3);
        Due.is("bad is ahead of full", x.tells(0, 2), -1);
        Due.is("bad person, full", x.tells(2, 0), -1);
        Due.is("count", x.count(2), 6);
        Due.is("forget", x.forget(), 6);
        Due.is("forget again", x.forget(), 0);
        Due.is("room again", x.tells(0, 1), 1);
    }

    private static void records() {
        OneJohn x = new OneJohn();
        Due.is("b 5", x.record(5, 0), -1);
        Due.is("b -1", x.record(-1, 0), -1);
        Due.is("passed 2", x.record(0, 2), -1);
        Due.is("passed -1", x.record(0, -1), -1);
        for (int i = 1; i <= 6; i++) {
            Due.is("record " + i, x.record(i % 5, 0), i);
        }
        Due.is("full", x.record(4, 1), -3);
        Due.is("bad is ahead of full", x.record(5, 1), -1);
        Due.is("count", x.count(3), 6);
        Due.is("forget", x.forget(), 6);
        Due.is("count then", x.count(3), 0);
    }

    private static void who() {
        OneJohn x = Due.told("n2;p0 0 0;p0 0 0;p1 0 0;");
        Due.is("nothing told", x.who(), 128 + 7);
        x.tells(0, 1);
        Due.is("by law 1 both of the name", x.who(), 3);
        x.hurts(2, 1);
        Due.is("who is hurt now is nothing to it", x.who(), 3);
        x.laws(14);
        Due.is("just he", x.who(), 1);
        x.tells(1, 0);
        x.laws(15);
        Due.is("one of a name did not", x.who(), 0);
        x.forget();
        x.tells(0, 0);
        Due.is("nobody, or another", x.who(), 128 + 4);
        x.names(1, 1);
        Due.is("names as they are now", x.who(), 128 + 6);
    }

    private static void which() {
        OneJohn x = Due.told("n2;p0 0 1;p0 0 1;p1 0 0;p1 0 0;p1 0 1;");
        Due.is("nothing told", x.which(0), 16);
        Due.is("the least", x.which(1), 0);
        Due.is("in all", x.which(2), 0);
        // By heads 3 to 2, by names 1 to 1.
        x.record(0, 0);
        Due.is("by law 2 only", x.which(0), 8);
        Due.is("its least", x.which(1), 2);
        Due.is("law 2 is in all", x.which(2), 2);
        x.hurts(0, 1);
        x.tells(1, 1);
        Due.is("and law 1", x.which(0), 4);
        Due.is("least of both", x.which(1), 3);
        Due.is("both in all", x.which(2), 3);
        x.laws(0);
        Due.is("which laws there are is nothing to it", x.which(0), 4);
        x.record(0, 1);
        Due.is("it can't be", x.which(0), 0);
        Due.is("no least", x.which(1), -9);
        Due.is("none in all", x.which(2), -9);
        x.forget();
        x.tells(1, 0);
        Due.is("without law 1", x.which(0), 8);
        Due.is("least without", x.which(1), 0);
        Due.is("what 3", x.which(3), -1);
        Due.is("what -1", x.which(-1), -1);
    }
}
