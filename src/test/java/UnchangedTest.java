import java.util.ArrayList;
import java.util.List;

/**
 * Behind a refused call, and behind one that only asks, nothing has changed: of two objects that are led alike one
 * is asked that call too, and all that can be seen of both is the same then.
 */
public final class UnchangedTest {
    private static final int FRESH = 0, BUSY = 1, FULL_TEXT = 2, LEDS = 3;
    private static final int[] PEOPLE = {0, 3, 1};
    private static final int[] NAMES = {4, 3, 2};
    private static final int LOOKS = 6;

    public static void main(String[] args) {
        refusedAsBad();
        refusedAsState();
        refusedAsFull();
        theFirstOfTwoGrounds();
        faults();
        asked();
        Due.end();
    }

    private static Run led(int how) {
        Run run = new Run();
        if (how == BUSY) {
            run.anew("n3;p0 90 3;p0 35 5;p1 60 6;q0 1;q2 0;").times(99, "deeds", 0).times(1, "hurts", 1, 1);
            run.times(1, "year").times(1, "names", 2, 2).times(1, "laws", 13).times(1, "keep", 0);
            run.times(1, "deeds", 1).times(1, "earns", 1, 40).times(1, "hurts", 2, 1).times(1, "laws", 7);
            run.times(1, "names", 1, 1).times(1, "year").times(1, "rate", 3, 1);
            // All of it is so, lest a claim that came in its place could not be seen.
            run.times(3, "tells", 0, 0).times(3, "tells", 1, 1);
            run.times(2, "record", 0, 1).times(1, "record", 3, 0).times(3, "record", 4, 0).due(16, "which", 0);
            run.type("n2;p1 7 1x;");
        } else if (how == FULL_TEXT) {
            run.anew("n2;p1 50 9;").type("n3;p2 8 4;p0 9 3;l5;").type(" ".repeat(180));
        }
        return run;
    }

    private static void ask(Run run, List<Long> seen, String call, int... numbers) {
        seen.add(run.call(call, numbers));
    }

    private static void askInTurn(Run run, List<Long> seen, String call, int last, int... ahead) {
        for (int i = 0; i <= last; i++) {
            int[] numbers = java.util.Arrays.copyOf(ahead, ahead.length + 1);
            numbers[ahead.length] = i;
            ask(run, seen, call, numbers);
        }
    }

    private static void seeNow(Run run, List<Long> seen) {
        askInTurn(run, seen, "now", 7);
        for (int p = 0; p < 3; p++) {
            for (int what : new int[] {0, 1, 3, 5}) {
                ask(run, seen, "person", p, what);
            }
        }
    }

    private static void seeAll(Run run, List<Long> seen) {
        askInTurn(run, seen, "count", 4);
        ask(run, seen, "trace");
        seeNow(run, seen);
        for (int p = 0; p < 3; p++) {
            askInTurn(run, seen, "person", 7, p);
        }
        for (int k = 0; k < 4; k++) {
            askInTurn(run, seen, "name", 2, k);
        }
        for (int b = 0; b < 5; b++) {
            askInTurn(run, seen, "bill", 3, b);
        }
        askInTurn(run, seen, "quarrels", 3);
        askInTurn(run, seen, "apart", 3);
        askInTurn(run, seen, "married", 3);
        askInTurn(run, seen, "cheapest", 3);
        ask(run, seen, "who");
        askInTurn(run, seen, "which", 2);
        askInTurn(run, seen, "odds", 1, 0, 4, 3);
    }

    /** What can be seen only by doing more is seen on an object of its own. */
    private static List<Long> look(Run run, int which) {
        List<Long> seen = new ArrayList<>();
        switch (which) {
            case 0:
                seeAll(run, seen);
                break;
            case 1:
                for (int i = 0; i < 11; i++) {
                    ask(run, seen, "undo");
                    seeNow(run, seen);
                }
                break;
            case 2:
                for (int image = 0; image < 2; image++) {
                    ask(run, seen, "back", image);
                    seeNow(run, seen);
                    ask(run, seen, "undo");
                }
                break;
            case 3:
                ask(run, seen, "republic");
                seeAll(run, seen);
                ask(run, seen, "clear");
                break;
            case 4:
                for (int set = 0; set <= 15; set++) {
                    ask(run, seen, "laws", set);
                    ask(run, seen, "who");
                }
                askInTurn(run, seen, "which", 2);
                ask(run, seen, "forget");
                askInTurn(run, seen, "which", 2);
                ask(run, seen, "tells", 0, 0);
                ask(run, seen, "record", 0, 0);
                askInTurn(run, seen, "which", 2);
                break;
            default:
                for (int i = 0; i < 12; i++) {
                    ask(run, seen, "earns", 0, i);
                }
                for (int i = 0; i < 11; i++) {
                    ask(run, seen, "undo");
                    ask(run, seen, "person", 0, 1);
                }
                break;
        }
        return seen;
    }

    private static void unchanged(int how, Face.Asked asked) {
        for (int which = 0; which < LOOKS; which++) {
            Run other = led(how);
            other.call(asked.call, asked.numbers);
            boolean same = look(led(how), which).equals(look(other, which));
            Due.is("led " + how + ", look " + which + ", behind " + asked + ": as it was", same ? 1 : 0, 1);
        }
    }

    private static void refused(int how, int answer, String call, int... numbers) {
        led(how).due(answer, call, numbers);
        unchanged(how, new Face.Asked(call, numbers));
    }

    private static void refusedAsBad() {
        Due.sentence("Refused, and nothing changes: BAD");
        for (int how = 0; how < LEDS; how++) {
            for (Face face : Face.all(PEOPLE[how], NAMES[how])) {
                for (Face.Asked asked : face.beyond()) {
                    refused(how, asked.bad(), asked.call, asked.numbers);
                }
                refused(how, face.allBeyond().bad(), face.call, face.allBeyond().numbers);
            }
        }
    }

    private static void refusedAsState() {
        Due.sentence("Refused, and nothing changes: STATE");
        refused(BUSY, -2, "deeds", 0);
        refused(BUSY, -2, "back", 1);
        refused(FRESH, -2, "back", 0);
        refused(FRESH, -2, "back", 1);
        refused(FRESH, -2, "undo");
        refused(FULL_TEXT, -2, "undo");
    }

    private static void refusedAsFull() {
        Due.sentence("Refused, and nothing changes: FULL");
        refused(FULL_TEXT, -3, "type", ';');
        refused(FULL_TEXT, -3, "type", 0);
        refused(BUSY, -3, "tells", 0, 1);
        refused(BUSY, -3, "tells", 1, 0);
        refused(BUSY, -3, "tells", 2, 0);
        refused(BUSY, -3, "record", 0, 0);
        refused(BUSY, -3, "record", 4, 1);
    }

    private static void theFirstOfTwoGrounds() {
        Due.sentence("Refused, and nothing changes: the first of these");
        refused(FULL_TEXT, -1, "type", 256);
        refused(BUSY, -1, "tells", 3, 0);
        refused(BUSY, -1, "tells", 0, 2);
        refused(BUSY, -1, "record", 5, 0);
        refused(BUSY, -1, "record", 0, 2);
        refused(FRESH, -1, "back", 2);
        refused(BUSY, -1, "back", 2);
        refused(BUSY, -1, "deeds", 3);
    }

    private static void faults() {
        Due.sentence("-10 less FAULT: nothing changes");
        refused(BUSY, -10 - 9, "republic");
    }

    private static void asked() {
        Due.sentence("what is only asked changes nothing");
        String[] asking = {"person", "quarrels", "name", "bill", "now", "apart", "cheapest", "which", "married", "odds",
            "count"};
        for (int how = 0; how < LEDS; how++) {
            for (Face face : Face.all(PEOPLE[how], NAMES[how])) {
                if (java.util.Arrays.asList(asking).contains(face.call)) {
                    for (Face.Asked asked : face.allowed()) {
                        unchanged(how, asked);
                    }
                }
            }
            for (int what = 0; what <= 7; what++) {
                unchanged(how, new Face.Asked("now", what));
                unchanged(how, new Face.Asked("person", 0, what));
            }
            unchanged(how, new Face.Asked("who"));
            unchanged(how, new Face.Asked("trace"));
        }
    }
}
