/**
 * A new object and a run of calls on it, each told by its name and its numbers.
 * The document promises 512 calls, so a run that asks more is itself wrong.
 */
final class Run {
    private static final int PROMISED = 512;
    private final OneJohn x = new OneJohn();
    private int calls = 0;

    /** A run whose republic a text tells. */
    static Run told(String text) {
        return new Run().anew(text);
    }

    Run type(String letters) {
        for (int i = 0; i < letters.length(); i++) {
            call("type", letters.charAt(i));
        }
        return this;
    }

    /** A text that tells the republic anew, without a fault. */
    Run anew(String text) {
        type(text);
        long items = call("republic");
        Due.is("\"" + text + "\" is without a fault", items < 0 ? items : 0, 0);
        return this;
    }

    Run due(long want, String call, int... numbers) {
        Due.is(shown(call, numbers), call(call, numbers), want);
        return this;
    }

    /** One answer after the other, by the last number of a call from 0 on. */
    Run dueInTurn(String call, int[] ahead, int... wants) {
        for (int i = 0; i < wants.length; i++) {
            int[] numbers = java.util.Arrays.copyOf(ahead, ahead.length + 1);
            numbers[ahead.length] = i;
            due(wants[i], call, numbers);
        }
        return this;
    }

    /** So often the same call, whatever it answers. */
    Run times(int often, String call, int... numbers) {
        for (int i = 0; i < often; i++) {
            call(call, numbers);
        }
        return this;
    }

    static String shown(String call, int... numbers) {
        StringBuilder s = new StringBuilder(call).append('(');
        for (int i = 0; i < numbers.length; i++) {
            s.append(i == 0 ? "" : ", ").append(numbers[i]);
        }
        return s.append(')').toString();
    }

    long call(String call, int... n) {
        calls++;
        if (calls == PROMISED + 1) {
            Due.is("a run of more calls than are promised, " + shown(call, n), calls, PROMISED);
        }
        switch (call) {
            case "type": return x.type(n[0]);
            case "clear": return x.clear();
            case "republic": return x.republic();
            case "person": return x.person(n[0], n[1]);
            case "quarrels": return x.quarrels(n[0]);
            case "name": return x.name(n[0], n[1]);
            case "bill": return x.bill(n[0], n[1]);
            case "now": return x.now(n[0]);
            case "hurts": return x.hurts(n[0], n[1]);
            case "deeds": return x.deeds(n[0]);
            case "earns": return x.earns(n[0], n[1]);
            case "names": return x.names(n[0], n[1]);
            case "laws": return x.laws(n[0]);
            case "year": return x.year();
            case "undo": return x.undo();
            case "apart": return x.apart(n[0]);
            case "cheapest": return x.cheapest(n[0]);
            case "tells": return x.tells(n[0], n[1]);
            case "record": return x.record(n[0], n[1]);
            case "forget": return x.forget();
            case "who": return x.who();
            case "which": return x.which(n[0]);
            case "married": return x.married(n[0]);
            case "odds": return x.odds(n[0], n[1], n[2], n[3]);
            case "rate": return x.rate(n[0], n[1]);
            case "keep": return x.keep(n[0]);
            case "back": return x.back(n[0]);
            case "count": return x.count(n[0]);
            case "trace": return x.trace();
            default: throw new IllegalArgumentException(call);
        }
    }
}
