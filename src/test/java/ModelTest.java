import java.util.Random;

/** Many runs of calls, always the same ones, on the class and on the model beside it. */
public final class ModelTest {
    private static final int RUNS = 1500, CALLS = 512;
    private static final Random CHANCE = new Random(20261118);
    private static OneJohn x;
    private static Model m;

    public static void main(String[] args) {
        for (int run = 0; run < RUNS; run++) {
            x = new OneJohn();
            m = new Model();
            int left = CALLS - tellAnew(CALLS);
            while (left > 0) {
                left -= CHANCE.nextInt(60) == 0 ? tellAnew(left) : call(run, CHANCE.nextInt(27));
            }
        }
        Due.end();
    }

    private static int tellAnew(int left) {
        int letters = 0;
        String text = CHANCE.nextInt(4) == 0 ? spoilt(republicText()) : republicText();
        for (int i = 0; i < text.length() && letters < left - 1; i++, letters++) {
            Due.is("type", x.type(text.charAt(i)), m.type(text.charAt(i)));
        }
        Due.is("republic \"" + m.text + "\"", x.republic(), m.republic());
        if (m.text.length() > 0 && CHANCE.nextInt(3) > 0) {
            Due.is("clear", x.clear(), m.clear());
        }
        return letters + 1;
    }

    private static String republicText() {
        StringBuilder s = new StringBuilder();
        int names = 1 + CHANCE.nextInt(4);
        int people = CHANCE.nextInt(8);
        boolean late = CHANCE.nextInt(2) == 0;
        if (names < 4 || CHANCE.nextInt(2) == 0) s.append('n').append(gap()).append(names).append(gap()).append(';');
        if (!late && CHANCE.nextInt(2) == 0) s.append('l').append(CHANCE.nextInt(16)).append(';');
        int dear = 1 + CHANCE.nextInt(99);
        for (int p = 0; p < people; p++) {
            s.append('p').append(gap()).append(CHANCE.nextInt(names)).append(' ');
            s.append(CHANCE.nextInt(dear + 1)).append(' ').append(CHANCE.nextInt(32)).append(';').append(gap());
        }
        int quarrels = people < 2 ? 0 : CHANCE.nextInt(people * people / 2 + 1);
        for (int i = 0; i < quarrels; i++) {
            int a = CHANCE.nextInt(people);
            int b = (a + 1 + CHANCE.nextInt(people - 1)) % people;
            s.append('q').append(a).append(' ').append(b).append(';');
        }
        if (late && CHANCE.nextInt(2) == 0) s.append('l').append(CHANCE.nextInt(16)).append(';');
        return s.toString();
    }

    private static String gap() {
        return CHANCE.nextInt(5) == 0 ? " " : "";
    }

    private static String spoilt(String text) {
        StringBuilder s = new StringBuilder(text);
        int at = CHANCE.nextInt(s.length() + 1);
        switch (CHANCE.nextInt(4)) {
            case 0: s.setLength(at); break;
            case 1: s.insert(at, "npql;0123456789 x".charAt(CHANCE.nextInt(17))); break;
            case 2: if (at < s.length()) s.deleteCharAt(at); break;
            default: if (at < s.length()) s.setCharAt(at, "npql;0123456789 x".charAt(CHANCE.nextInt(17))); break;
        }
        return s.toString();
    }

    /** Mostly a number that may be, at times one at its edge or far off. */
    private static int number(int low, int high) {
        int luck = CHANCE.nextInt(40);
        if (luck == 0) return low - 1;
        if (luck == 1) return high + 1;
        if (luck == 2) return CHANCE.nextInt();
        return low + (high < low ? 0 : CHANCE.nextInt(high - low + 1));
    }

    private static int someone() {
        return number(0, m.w.people.size() - 1);
    }

    private static void is(int run, String call, long got, long want) {
        Due.is("run " + run + ": " + call, got, want);
    }

    private static int call(int run, int which) {
        int p = someone(), k = number(0, m.names - 1), a, b, c;
        switch (which) {
            case 0: a = number(0, 7); is(run, "person " + p + " " + a, x.person(p, a), m.person(p, a)); break;
            case 1: is(run, "quarrels " + p, x.quarrels(p), m.quarrels(p)); break;
            case 2: a = number(0, 2); is(run, "name " + k + " " + a, x.name(k, a), m.name(k, a)); break;
            case 3: b = number(0, 4); a = number(0, 3);
                is(run, "bill " + b + " " + a, x.bill(b, a), m.bill(b, a)); break;
            case 4: a = number(0, 7); is(run, "now " + a, x.now(a), m.now(a)); break;
            case 5: a = number(0, 1); is(run, "hurts " + p + " " + a, x.hurts(p, a), m.hurts(p, a)); break;
            case 6: is(run, "deeds " + p, x.deeds(p), m.deeds(p)); break;
            case 7: a = number(-99, 99); is(run, "earns " + p + " " + a, x.earns(p, a), m.earns(p, a)); break;
            case 8: is(run, "names " + p + " " + k, x.names(p, k), m.names(p, k)); break;
            case 9: a = number(0, 15); is(run, "laws " + a, x.laws(a), m.laws(a)); break;
            case 10: is(run, "year", x.year(), m.year()); break;
            case 11: is(run, "undo", x.undo(), m.undo()); break;
            case 12: a = number(-1, m.w.people.size() - 1); is(run, "apart " + a, x.apart(a), m.apart(a)); break;
            case 13: is(run, "cheapest " + p, x.cheapest(p), m.cheapest(p)); break;
            case 14: a = number(0, 1); is(run, "tells " + p + " " + a, x.tells(p, a), m.tells(p, a)); break;
            case 15: b = number(0, 4); a = number(0, 1);
                is(run, "record " + b + " " + a, x.record(b, a), m.record(b, a)); break;
            case 16: is(run, "forget", x.forget(), m.forget()); break;
            case 17: is(run, "who", x.who(), m.who()); break;
            case 18: a = number(0, 2); is(run, "which " + a, x.which(a), m.which(a)); break;
            case 19: a = number(-1, m.w.people.size() - 1); is(run, "married " + a, x.married(a), m.married(a)); break;
            case 20: a = number(0, 6); b = CHANCE.nextInt(3) == 0 ? number(0, 20) : number(0, 9); c = number(0, 1);
                is(run, "odds " + k + " " + a + " " + b + " " + c, x.odds(k, a, b, c), m.odds(k, a, b, c)); break;
            case 21: a = number(0, 5); is(run, "rate " + a + " " + p, x.rate(a, p), m.rate(a, p)); break;
            case 22: a = number(0, 1); is(run, "keep " + a, x.keep(a), m.keep(a)); break;
            case 23: a = number(0, 1); is(run, "back " + a, x.back(a), m.back(a)); break;
            case 24: a = number(0, 4); is(run, "count " + a, x.count(a), m.count(a)); break;
            case 25: a = number(0, 255); is(run, "type " + a, x.type(a), m.type(a));
                is(run, "clear", x.clear(), m.clear()); break;
            default: is(run, "trace", x.trace(), m.trace); break;
        }
        return 1;
    }
}
