import com.sun.management.ThreadMXBean;
import java.lang.management.ManagementFactory;

/** All calls of a run live in one room: what an object is made of is small, and no call makes anything. */
public final class RoomTest {
    private static final int CALLS = 512;
    private static final int MOST_BYTES_MADE = 100_000;

    public static void main(String[] args) {
        ThreadMXBean threads = (ThreadMXBean) ManagementFactory.getThreadMXBean();
        dearCalls(new GridStarts());
        long before = threads.getCurrentThreadAllocatedBytes();
        GridStarts x = new GridStarts();
        long made = threads.getCurrentThreadAllocatedBytes();
        int sum = dearCalls(x);
        long called = threads.getCurrentThreadAllocatedBytes();
        Check.isTrue("an object of " + (made - before) + " bytes", made - before < MOST_BYTES_MADE);
        Check.isTrue("calls that make " + (called - made) + " bytes", called - made < CALLS);
        Check.isTrue("calls that were answered", sum > 0);
        Check.end();
    }

    private static int dearCalls(GridStarts x) {
        for (int line = 0; line < 6; line++) {
            x.line(line, (line + 1) % 6, 0);
        }
        for (int machine = 0; machine < 3; machine++) {
            x.machine(machine, 0, 9, 3);
        }
        int sum = 0;
        for (int i = 0; i < (CALLS - 9) / 10; i++) {
            sum += x.image(0) + x.way(7, 63, -1) + x.way(7, 63, 0) + x.needed(7, 63, 0) + x.needed(7, 63, 1);
            sum += x.ever(0) + x.ever(1) + x.go(7, 63) + x.restore(0) + x.trip(5);
        }
        return sum;
    }
}
