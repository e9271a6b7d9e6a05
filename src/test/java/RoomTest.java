import com.sun.management.ThreadMXBean;
import java.lang.management.ManagementFactory;

/** All calls of one run live in one room: no call that is answered makes an object. */
public final class RoomTest {
    private static final int OBJECTS = 200;
    private static final int ROUNDS = 36;
    /** Far less than one object a call, and far more than the measuring itself takes. */
    private static final long MOST_BYTES = 100_000;
    private static final ThreadMXBean THREADS = (ThreadMXBean) ManagementFactory.getThreadMXBean();

    public static void main(String[] args) {
        Check check = new Check();
        long sum = use(new FixedSignals());
        FixedSignals[] objects = new FixedSignals[OBJECTS];
        for (int i = 0; i < OBJECTS; i++) {
            objects[i] = new FixedSignals();
        }
        long before = made();
        for (FixedSignals signals : objects) {
            sum += use(signals);
        }
        // A JVM that cannot measure this answers -1 twice.
        long bytes = made() - before;
        check.holds(14 * ROUNDS * OBJECTS + " calls made " + bytes + " bytes of objects", bytes < MOST_BYTES);
        check.holds("the calls were made", sum != 0);
        check.end();
    }

    private static long made() {
        if (!THREADS.isThreadAllocatedMemorySupported()) {
            return -1;
        }
        return THREADS.getThreadAllocatedBytes(Thread.currentThread().getId());
    }

    private static long use(FixedSignals signals) {
        long sum = 0;
        for (int i = 0; i < ROUNDS; i++) {
            sum += signals.work(i % 6, 1 << i % 31, i % 32);
            sum += signals.small(i % 6, 9 * i, i % 16);
            sum += signals.narrow(i << 24);
            signals.tap(i % 16, 1000 * i - 16000);
            sum += signals.filter(900 * i);
            signals.stage(i % 4, i % 5, 800 * i);
            sum += signals.chain(16000 - 900 * i);
            if (i % 8 == 7) {
                signals.calm();
            }
            signals.put(i % 32, i << 26, -i << 25);
            sum += signals.transform(i % 6, i % 2 == 0);
            sum += signals.get(i % 32, i % 3 == 0);
            sum += signals.wave(i << 27, i % 2 == 0);
            sum += signals.angle(i << 23, (18 - i) << 23);
            sum += signals.length((18 - i) << 23, i << 22);
        }
        return sum;
    }
}
