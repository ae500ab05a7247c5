import com.sun.management.ThreadMXBean;
import java.lang.management.ManagementFactory;

/** All calls of a run live in one room: a constructor makes little, and no other call makes anything. */
public final class SparingTest {
    private static final int MEASURES = 5;
    private static final int CANOPIES = 40;
    /** With the calls that fill a canopy these are 500 calls: as many as it is used for, or nearly. */
    private static final int ROUNDS = 38;

    private static final Check check = new Check("sparing");
    /** Fetched once: fetching it makes objects itself, which would be counted with those of the calls. */
    private static final ThreadMXBean THREADS = (ThreadMXBean) ManagementFactory.getThreadMXBean();

    public static void main(String[] args) {
        check.isTrue("the machine can tell what a thread makes", made() > 0);
        long leastByObject = Long.MAX_VALUE;
        long leastByCalls = Long.MAX_VALUE;
        // The machine makes some objects of its own on this thread, once, when it compiles the calls anew. The least
        // of several measures is without them; what a call makes each time is in every one.
        for (int i = 0; i < MEASURES; i++) {
            ZipCanopy[] canopies = new ZipCanopy[CANOPIES];
            leastByObject = Math.min(leastByObject, madeByConstructors(canopies) / CANOPIES);
            leastByCalls = Math.min(leastByCalls, madeByCalls(canopies));
        }
        check.isTrue("a new object takes " + leastByObject + " bytes", leastByObject < 16000);
        check.isTrue("calls make nothing, but made " + leastByCalls + " bytes in " + CANOPIES + " canopies",
                leastByCalls < 8 * CANOPIES);
        check.end();
    }

    private static long madeByConstructors(ZipCanopy[] canopies) {
        long before = made();
        for (int i = 0; i < canopies.length; i++) {
            canopies[i] = new ZipCanopy();
        }
        return made() - before;
    }

    private static long madeByCalls(ZipCanopy[] canopies) {
        long before = made();
        for (ZipCanopy canopy : canopies) {
            fill(canopy);
            callAll(canopy);
        }
        return made() - before;
    }

    private static long made() {
        return THREADS.getThreadAllocatedBytes(Thread.currentThread().getId());
    }

    private static void fill(ZipCanopy canopy) {
        for (int i = 0; i < 8; i++) {
            canopy.build(5 * i, i, 60 - 7 * i);
        }
        for (int i = 0; i < 12; i++) {
            canopy.span(i % 7, i % 7 + 1, 120, 1);
            canopy.add(i);
        }
        for (int i = 0; i < 12; i++) {
            canopy.come(i % 3, 7, 20 + 9 * i, 60);
        }
    }

    private static void callAll(ZipCanopy canopy) {
        for (int i = 0; i < ROUNDS; i++) {
            canopy.arrives(i % 12);
            canopy.advise(1 + i % 30);
            canopy.way(0, 7, 50);
            canopy.ride(i % 12, 50);
            canopy.rider(i % 12, i % 11);
            canopy.line(i % 12, i % 11);
            canopy.platform(i % 8, i % 8);
            canopy.count(i % 10);
            canopy.digest();
            canopy.mean();
            canopy.setWind(i % 12, i % 7);
            canopy.pass(1);
        }
    }
}
