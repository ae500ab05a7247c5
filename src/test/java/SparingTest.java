import com.sun.management.ThreadMXBean;
import java.lang.management.ManagementFactory;

/** All calls of a run live in one room: a constructor makes little, and no other call makes anything. */
public final class SparingTest {
    private static final int TIMES = 2000;

    private static final Check check = new Check("sparing");

    public static void main(String[] args) {
        ZipCanopy canopy = busy();
        allCalls(canopy, 10);
        long before = made();
        allCalls(canopy, TIMES);
        long bytes = made() - before;
        check.isTrue("calls make nothing, but made " + bytes + " bytes in " + TIMES + " rounds", bytes < TIMES);

        before = made();
        for (int i = 0; i < TIMES; i++) {
            new ZipCanopy();
        }
        bytes = (made() - before) / TIMES;
        check.isTrue("a new object takes " + bytes + " bytes", bytes < 16000);
        check.end();
    }

    private static long made() {
        ThreadMXBean threads = (ThreadMXBean) ManagementFactory.getThreadMXBean();
        return threads.getThreadAllocatedBytes(Thread.currentThread().getId());
    }

    private static ZipCanopy busy() {
        ZipCanopy canopy = new ZipCanopy();
        for (int i = 0; i < 8; i++) {
            canopy.build(5 * i, i, 60 - 7 * i);
        }
        for (int i = 0; i < 12; i++) {
            canopy.span(i % 7, i % 7 + 1, 120, 1);
        }
        for (int i = 0; i < 12; i++) {
            canopy.come(i % 3, 7, 20 + 9 * i, 60);
        }
        return canopy;
    }

    private static void allCalls(ZipCanopy canopy, int times) {
        for (int i = 0; i < times; i++) {
            canopy.arrives(i % 12);
            canopy.advise(1 + i % 30);
            canopy.way(0, 7, 50);
            canopy.ride(i % 12, 50);
            canopy.digest();
            canopy.mean();
            canopy.setWind(i % 12, i % 7);
            canopy.pass(1);
        }
    }
}
