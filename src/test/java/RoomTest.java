import com.sun.management.ThreadMXBean;
import java.lang.management.ManagementFactory;

/** All calls of one run live in one room: a new object is small, and calls that answer make no objects. */
public final class RoomTest {
    private static final int[] LEVEL_4 = {8, 14, 16, 20, 22, 24, 32, 34, 38, 40, 42, 46};

    /** What the measuring itself may make, and the machine's own work behind the scenes. */
    private static final long SLACK = 20_000;

    private static final ThreadMXBean BEAN = (ThreadMXBean) ManagementFactory.getThreadMXBean();
    private static long kept;

    private RoomTest() {
    }

    public static void main(String[] args) {
        Check check = new Check();
        new NotchedKeys().digest();
        long before = made();
        NotchedKeys x = new NotchedKeys();
        long ofObject = made() - before;
        check.due("a new object is below 40000 bytes, not " + ofObject, Boolean.toString(ofObject < 40_000), "true");
        oneRun(new NotchedKeys());
        before = made();
        int calls = oneRun(x);
        long ofCalls = made() - before;
        check.due("calls of the run", calls, 512);
        check.due("512 calls make nothing, not " + ofCalls, Boolean.toString(ofCalls < SLACK), "true");
        check.due("the answers are used", Boolean.toString(kept != 0), "true");
        check.end();
    }

    private static long made() {
        return BEAN.getThreadAllocatedBytes(Thread.currentThread().getId());
    }

    private static int oneRun(NotchedKeys x) {
        int calls = 0;
        for (int i = 0; i < 12; i++) {
            kept += x.cut(LEVEL_4[i], i % 4) + x.ward(i % 6, i);
            calls += 2;
        }
        for (; calls + 16 <= 512; calls += 16) {
            kept += x.turn(calls % 12, calls % 6) + x.set(3, calls % 2) + x.give(1, calls % 4) + x.guest(1, 3);
            kept += x.keep() + x.goBack() + x.undo() + x.digest();
            kept += x.append('l') + x.append('9') + x.firstError() + x.obey();
            kept += x.append('f') + x.append('9') + x.obey() + x.digest();
        }
        for (; calls < 512; calls++) {
            kept += x.most(1) + (long) (100 * x.freeShare()) + (long) x.meanLevel();
        }
        return calls;
    }
}
