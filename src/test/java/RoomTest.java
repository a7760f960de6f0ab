import com.sun.management.ThreadMXBean;
import java.lang.management.ManagementFactory;

/** All calls of a run share one room: what an object and its dearest calls make stays small. */
public final class RoomTest {
    private static final int CALLS = 400;
    /** A tenth of a room of 7.3 million elements of four bytes. */
    private static final long BYTES_OF_A_RUN = 2_920_000;

    private static final ThreadMXBean THREADS =
            (ThreadMXBean) ManagementFactory.getThreadMXBean();

    public static void main(String[] args) {
        // Once ahead, so that the loading of classes is not counted.
        dearCall(full(), 0);
        long start = allocated();
        long without = allocated() - start;
        start = allocated();
        ChangingStars x = full();
        long made = allocated() - start - without;
        start = allocated();
        for (int n = 0; n < CALLS; n++) {
            dearCall(x, n % 9);
        }
        long calls = allocated() - start - without;
        System.out.println("an object: " + made + " bytes, " + CALLS + " dear calls: " + calls);
        Check.dueTrue("a run stays within its part of the room", made + calls < BYTES_OF_A_RUN);
        Check.end();
    }

    private static long allocated() {
        return THREADS.getCurrentThreadAllocatedBytes();
    }

    private static ChangingStars full() {
        ChangingStars x = new ChangingStars();
        for (int s = 0; s < 12; s++) {
            x.star(s % 4);
            x.row(s);
        }
        for (int night = 0; night < 60; night++) {
            x.lay(0, night, night * 7919 % 10001);
        }
        for (int s = 1; s < 12; s++) {
            x.copy(0, 0, s, 0, 60);
        }
        for (int k = 0; k < 10; k++) {
            x.rule(k % 4, 20000 + k, 30000, k % 10);
        }
        return x;
    }

    private static void dearCall(ChangingStars x, int which) {
        switch (which) {
            case 0 -> x.period(0, 59, 1, 600);
            case 1 -> x.asWell(1, 59, 1, 600, 50);
            case 2 -> x.dip(2, 600, 30);
            case 3 -> x.level();
            case 4 -> x.watch();
            case 5 -> x.bent(3, 1, 0, 0, 7, 1);
            case 6 -> x.row(11);
            case 7 -> x.copy(0, 0, 11, 0, 60);
            default -> x.digest();
        }
    }
}
