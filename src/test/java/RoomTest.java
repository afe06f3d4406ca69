import java.lang.management.ManagementFactory;

/** All calls of a run live in one room: calls make no objects, and a new object makes few. */
public final class RoomTest {
    private static final Check CHECK = new Check();
    private static final com.sun.management.ThreadMXBean THREADS =
        (com.sun.management.ThreadMXBean) ManagementFactory.getThreadMXBean();

    private RoomTest() { }

    public static void main(String[] args) {
        JackBoxes x = new JackBoxes();
        for (char sign : "l99;l88;e77;w66;t55;l44;e33;w22;t11".toCharArray()) {
            x.type(sign);
        }
        for (int k = 0; k < 24; k++) {
            x.tell(2 * k, k % 9, k % 3);
        }
        x.heard(59, 0);
        dearCalls(x);
        long before = allocated();
        for (int k = 0; k < 70; k++) {
            dearCalls(x);
        }
        long taken = allocated() - before;
        CHECK.holds("490 dear calls take no room, but took " + taken + " bytes", taken < 10_000);

        before = allocated();
        for (int k = 0; k < 500; k++) {
            new JackBoxes();
        }
        taken = allocated() - before;
        CHECK.holds("an object takes some 8 KiB at most, but took " + taken / 500, taken / 500 < 8192);
        CHECK.end();
    }

    private static long allocated() {
        return THREADS.getCurrentThreadAllocatedBytes();
    }

    private static void dearCalls(JackBoxes x) {
        x.hush(59, 0);
        x.shelf(6, 1, 5);
        x.learn(0, 36);
        x.turn(8, 59);
        x.looks(7, 0, 9, 0);
        x.sheet(0, 2, 60);
        x.digest();
    }
}
