import com.sun.management.ThreadMXBean;
import java.lang.management.ManagementFactory;

/** What an object makes in its 512 calls is small: all objects of a run have to find room together. */
public final class RoomTest {
    private static final int CALLS = 512;
    private static final int FOR_AN_OBJECT = 6_000;
    private static final int FOR_A_LIFE = 120_000;
    private static final int FOR_ALL_QUESTIONS = 2_000;
    private static final Checks CHECKS = new Checks();
    private static final ThreadMXBean THREADS = (ThreadMXBean) ManagementFactory.getThreadMXBean();

    public static void main(String[] args) {
        // The first life also makes what the machine itself needs for the classes.
        live();
        long[] made = live();
        CHECKS.isTrue("a new object takes " + made[0] + " bytes", made[0] < FOR_AN_OBJECT);
        CHECKS.isTrue("an object full of writes takes " + made[1] + " bytes", made[1] < FOR_A_LIFE);
        CHECKS.isTrue("questions take " + made[2] + " bytes", made[2] < FOR_ALL_QUESTIONS);
        CHECKS.end();
    }

    private static long bytes() {
        return THREADS.getThreadAllocatedBytes(Thread.currentThread().getId());
    }

    /** The bytes that were taken by the object when it was made, with all its writes, and by questions to it. */
    private static long[] live() {
        long start = bytes();
        FreshDisks x = new FreshDisks();
        long made = bytes();
        writeInEachCall(x);
        long written = bytes();
        for (int i = 0; i < CALLS; i++) {
            askAll(x);
        }
        return new long[] {made - start, written - start, bytes() - written};
    }

    private static void writeInEachCall(FreshDisks x) {
        x.setBarriers(false);
        x.begin(7, 4);
        x.prepare(0, 127);
        for (int i = 3; i < CALLS; i++) {
            x.accept(0, i % 4, i % 10, 127);
        }
    }

    private static void askAll(FreshDisks x) {
        x.digest();
        x.firstError();
        x.ifCrashed(6, 100, 3);
        x.leastLosses(3);
        x.harmless(6);
        x.answered();
        x.onDisks();
        x.waiting(6, 100, 1);
    }
}
