import java.util.List;

/** What is refused: of each number of each call the last that is allowed and the first that is not, on both sides. */
public final class GroundsTest {
    public static void main(String[] args) {
        for (int people : new int[] {0, 1, 2, 6, 7}) {
            for (int names = 1; names <= 4; names++) {
                numbersOf(people, names);
            }
        }
        badAheadOfState();
        badAheadOfFull();
        callsWithoutNumbers();
        Due.end();
    }

    private static Run republic(int people, int names) {
        return Run.told("n" + names + ";" + "p0 9 1;".repeat(people)).due(0, "keep", 0).due(0, "keep", 1);
    }

    private static void numbersOf(int people, int names) {
        for (Face face : Face.all(people, names)) {
            Due.sentence("BAD (a number is not as told, or there is no such thing): " + people + " PEOPLE, "
                + names + " NAMES");
            for (Face.Asked asked : face.allowed()) {
                long answer = republic(people, names).call(asked.call, asked.numbers);
                Due.is(asked + " is refused", answer == asked.bad() || answer == -2 || answer == -3 ? 1 : 0, 0);
            }
            for (Face.Asked asked : face.beyond()) {
                republic(people, names).due(asked.bad(), asked.call, asked.numbers);
            }
            Face.Asked all = face.allBeyond();
            republic(people, names).due(all.bad(), all.call, all.numbers);
        }
    }

    private static void badAheadOfState() {
        Due.sentence("the first of these: BAD .., STATE: back()");
        new Run().due(-2, "back", 0).due(-2, "back", 1).due(-1, "back", 2).due(-1, "back", -1);
        Due.sentence("the first of these: BAD .., STATE: deeds()");
        Run run = Run.told("n1;p0 0 0;").times(99, "deeds", 0).due(-2, "deeds", 0);
        run.due(-1, "deeds", 1).due(-1, "deeds", -1);
    }

    private static void badAheadOfFull() {
        Due.sentence("the first of these: BAD .., FULL: type()");
        Run text = new Run().type(" ".repeat(200)).due(-3, "type", 0).due(-3, "type", 255);
        text.due(-1, "type", 256).due(-1, "type", -1).due(-1, "type", Integer.MAX_VALUE);
        Due.sentence("the first of these: BAD .., FULL: tells()");
        Run told = Run.told("p0 0 0;p0 0 0;").times(6, "tells", 0, 0).due(-3, "tells", 1, 1);
        for (int[] n : List.of(new int[] {2, 0}, new int[] {-1, 0}, new int[] {0, 2}, new int[] {0, -1}, new int[] {2, 2})) {
            told.due(-1, "tells", n);
        }
        Due.sentence("the first of these: BAD .., FULL: record()");
        Run record = new Run().times(6, "record", 0, 0).due(-3, "record", 4, 1);
        for (int[] n : List.of(new int[] {5, 0}, new int[] {-1, 0}, new int[] {0, 2}, new int[] {0, -1}, new int[] {5, 2})) {
            record.due(-1, "record", n);
        }
    }

    /** These have no ground but their own: year() and undo() STATE, republic() a fault. */
    private static void callsWithoutNumbers() {
        Due.sentence("calls that are never refused");
        new Run().due(0, "clear").due(0, "forget").due(128, "who").due(0, "trace").due(0, "republic").due(0, "year");
        Run full = Run.told("p0 0 0;".repeat(7)).times(6, "tells", 0, 0).times(6, "record", 0, 0).type(" ".repeat(200));
        full.due(128, "who").due(0, "trace").due(12, "forget").due(200, "clear").due(0, "republic");
    }
}
