/** Promises 1 to 4 and 29: a new object, the text, what it tells and where it is at fault. */
public final class TextTest {
    public static void main(String[] args) {
        newObject();
        letters();
        goodTexts();
        faults();
        aFaultChangesNothing();
        toldAnew();
        Due.end();
    }

    private static void newObject() {
        OneJohn x = new OneJohn();
        int[] counts = {4, 0, 0, 0, 0};
        for (int what = 0; what < counts.length; what++) {
            Due.is("new: count " + what, x.count(what), counts[what]);
        }
        int[] nows = {0, 0, 15, 0, 0, 0, 0, 0};
        for (int what = 0; what < nows.length; what++) {
            Due.is("new: now " + what, x.now(what), nows[what]);
        }
        Due.is("new: trace", x.trace(), 0);
        Due.is("new: person 0", x.person(0, 0), -1);
        Due.is("new: name 3", x.name(3, 0), 0);
        Due.is("new: name 4", x.name(4, 0), -1);
        Due.is("new: back 0", x.back(0), -2);
        Due.is("new: undo", x.undo(), -2);
        Due.is("new: clear", x.clear(), 0);
        Due.is("count(-1)", x.count(-1), -1);
        Due.is("count(5)", x.count(5), -1);
    }

    private static void letters() {
        OneJohn x = new OneJohn();
        Due.is("type(-1)", x.type(-1), -1);
        Due.is("type(256)", x.type(256), -1);
        Due.is("type(least)", x.type(Integer.MIN_VALUE), -1);
        Due.is("type(most)", x.type(Integer.MAX_VALUE), -1);
        Due.is("type(0)", x.type(0), 1);
        Due.is("type(255)", x.type(255), 2);
        Due.is("letters", x.count(4), 2);
        Due.is("clear", x.clear(), 2);
        Due.is("clear again", x.clear(), 0);
        for (int i = 1; i <= 200; i++) {
            Due.is("type blank " + i, x.type(32), i);
        }
        Due.is("the 201st", x.type(32), -3);
        Due.is("the 201st, no letter", x.type(256), -1);
        Due.is("letters, full", x.count(4), 200);
        Due.is("blanks alone", x.republic(), 0);
        Due.is("the text is empty then", x.count(4), 0);
        Due.is("room again", x.type(32), 1);
    }

    private static void items(String text, int want) {
        Due.is("republic \"" + text + "\"", Due.type(new OneJohn(), text).republic(), want);
    }

    private static void goodTexts() {
        items("", 0);
        items("   ", 0);
        items("n1;", 1);
        items("n4;", 1);
        items("  n  4  ;  ", 1);
        items("l0;", 1);
        items("l15;", 1);
        items("n2;l3;p1 99 31;", 3);
        items("l3;p3 0 0;p0 1 1;q0 1;q1 0;q 1 0 ;", 6);
        items("p0 1 1;p0 1 1;p0 1 1;p0 1 1;p0 1 1;p0 1 1;p0 1 1;", 7);
        items("p0 1 1;p0 1 1;p0 1 1;p0 1 1;p0 1 1;p0 1 1;p0 1 1;q0 6;l1;", 9);
    }

    private static void fault(String text, int place) {
        OneJohn x = Due.type(new OneJohn(), text);
        Due.is("fault of \"" + text + "\"", x.republic(), -10 - place);
        Due.is("the text stays", x.clear(), text.length());
    }

    private static void faults() {
        String[] texts = {"n0;", "n5;", "n;", "n", "n ", "n2", "n2 ", ";", "3;", "x", "nn2;", "n22;", "n100;", "n02;",
            "n00;", "n 1 2;", "n2;n2;", "l1;n2;", "p0 1 1;n1;", "N2;", "n2;;", "n2 3;", " n9;",
            "p4 1 1;", "n1;p1 1 1;", "p0 99 32;", "p0 100 1;", "p0 00 1;", "p0 01 1;", "p0 1 1", "p0 1 1 1;",
            "p0 1;", "p0;", "p;", "p", "p0 ", "p0 1 1p;", "p0 1 1;p", "p0,1 1;", "p-1 1 1;", "p0 1 1q",
            "q", "q0 1;", "p0 1 1;q0 0;", "p0 1 1;q0 1;", "p0 1 1;q1 0;p0 1 1;", "p0 1 1;p0 1 1;q1 1;",
            "p0 1 1;p0 1 1;q0 1", "p0 1 1;p0 1 1;q0;", "p0 1 1;p0 1 1;q01;",
            "l16;", "l", "l1", "l1;l1;", "l1;l", "l01;", "l99;", "l100;", "l1 1;", "l" + "1".repeat(150) + ";",
            "p0 1 1;p0 1 1;p0 1 1;p0 1 1;p0 1 1;p0 1 1;p0 1 1;p0 1 1;",
            "p0 1 1;p0 1 1;p0 1 1;p0 1 1;p0 1 1;p0 1 1;p0 1 1;q0 7;",
            "n2;\tl1;", "n2;l1;" + (char) 255, (char) 0 + "n2;", "n2;" + (char) 160 + "l1;"};
        int[] places = {1, 1, 1, 1, 2, 2, 3, 0, 0, 0, 1, 1, 1, 1,
            1, 4, 3, 3, 7, 0, 3, 3, 2,
            1, 4, 6, 3, 3, 3, 6, 7,
            4, 2, 1, 1, 3, 6, 8, 2, 1, 6,
            1, 1, 10, 10, 8, 17,
            18, 16, 15,
            1, 1, 2, 3, 3, 1, 1, 1, 3, 1,
            49,
            52,
            3, 6, 0, 3};
        Due.is("texts and places", texts.length, places.length);
        for (int i = 0; i < texts.length && i < places.length; i++) {
            fault(texts[i], places[i]);
        }
    }

    private static void aFaultChangesNothing() {
        OneJohn x = Due.told("n2;p1 50 3;p0 9 1;q0 1;l5;");
        x.hurts(0, 1);
        x.deeds(1);
        x.tells(0, 1);
        x.record(2, 0);
        x.year();
        x.keep(1);
        Due.type(x, "n3;p2 1 1;p1 2 2;p0 3 3;l0;x");
        Due.is("a late fault", x.republic(), -10 - 27);
        Due.is("names", x.count(0), 2);
        Due.is("people", x.count(1), 2);
        Due.is("told", x.count(2), 1);
        Due.is("record", x.count(3), 1);
        Due.is("letters", x.count(4), 28);
        Due.is("wealth", x.person(0, 1), 45);
        Due.is("name", x.person(0, 0), 1);
        Due.is("for", x.person(0, 2), 3);
        Due.is("hurt", x.person(0, 3), 1);
        Due.is("deeds", x.person(1, 5), 1);
        Due.is("foes", x.quarrels(0), 2);
        Due.is("laws", x.now(2), 5);
        Due.is("years", x.now(0), 1);
        Due.is("chest", x.now(1), 5);
        Due.is("undone", x.now(7), 3);
        Due.is("image", x.back(1), 1);
    }

    private static void toldAnew() {
        OneJohn x = Due.told("n2;p1 50 3;p0 9 1;q0 1;l5;");
        x.hurts(0, 1);
        x.deeds(1);
        x.tells(0, 1);
        x.record(2, 0);
        x.year();
        x.keep(0);
        x.keep(1);
        x.rate(0, 0);
        Due.type(x, "p3 7 8;p2 9 4;");
        Due.is("told anew", x.republic(), 2);
        int[] counts = {4, 2, 0, 0, 0};
        for (int what = 0; what < counts.length; what++) {
            Due.is("anew: count " + what, x.count(what), counts[what]);
        }
        int[] nows = {0, 0, 15, 0, 0, 3, 0, 0};
        for (int what = 0; what < nows.length; what++) {
            Due.is("anew: now " + what, x.now(what), nows[what]);
        }
        int[] person = {3, 7, 8, 0, 0, 0, 0, 0};
        for (int what = 0; what < person.length; what++) {
            Due.is("anew: person " + what, x.person(0, what), person[what]);
        }
        Due.is("anew: deeds", x.person(1, 5), 0);
        Due.is("anew: no quarrel", x.quarrels(0), 0);
        Due.is("anew: undo", x.undo(), -2);
        Due.is("anew: image 0", x.back(0), -2);
        Due.is("anew: image 1", x.back(1), -2);
        Due.is("anew: the trace is of the object, not of the republic", x.trace(), 1);
        Due.is("anew: an empty text", x.republic(), 0);
        Due.is("nobody", x.count(1), 0);
        Due.is("four names", x.count(0), 4);
    }
}
