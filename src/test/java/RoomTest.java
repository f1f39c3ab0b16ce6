import java.lang.management.ManagementFactory;

/** All calls of a run share one room: no call makes an object, all rows are the constructor's. */
public final class RoomTest {
    private static final int ROUNDS = 2000;
    private static final long A_FEW = 4096;

    public static void main(String[] args) {
        if (!(ManagementFactory.getThreadMXBean() instanceof com.sun.management.ThreadMXBean)) {
            System.out.println("this machine does not count what is made");
            return;
        }
        com.sun.management.ThreadMXBean bean = (com.sun.management.ThreadMXBean) ManagementFactory.getThreadMXBean();
        OneJohn x = new OneJohn();
        String text = "n3;p0 90 3;p0 35 5;p1 60 6;p0 7 24;p1 44 1;p2 99 7;p1 1 1;q0 1;q2 4;q0 3;l15;";
        round(x, text);
        long thread = Thread.currentThread().getId();
        bean.getThreadAllocatedBytes(thread);
        long ahead = bean.getThreadAllocatedBytes(thread);
        for (int i = 0; i < ROUNDS; i++) {
            round(x, text);
        }
        long made = bean.getThreadAllocatedBytes(thread) - ahead;
        Due.is("bytes made by " + ROUNDS + " rounds: " + made + "; too many", made > A_FEW ? 1 : 0, 0);
        Due.end();
    }

    private static void round(OneJohn x, String text) {
        for (int i = 0; i < text.length(); i++) {
            x.type(text.charAt(i));
        }
        x.republic();
        x.tells(0, 1);
        x.record(0, 1);
        for (int what = 0; what < 8; what++) {
            x.person(what, what);
            x.name(what, what);
            x.bill(what, what);
            x.now(what);
            x.count(what);
            x.which(what);
            x.rate(what, what);
        }
        x.hurts(1, 1);
        x.deeds(2);
        x.earns(3, 99);
        x.names(4, 2);
        x.laws(7);
        x.year();
        x.undo();
        x.apart(-1);
        x.cheapest(1);
        x.who();
        x.married(-1);
        x.odds(0, 6, 3, 0);
        x.keep(0);
        x.back(0);
        x.quarrels(0);
        x.forget();
        x.trace();
        x.type('x');
        x.republic();
        x.clear();
    }
}
