import com.sun.management.ThreadMXBean;
import java.lang.management.ManagementFactory;

/**
 * The calls of one run live in one room of 7.3 million fields and elements: an object on which a call is made as often
 * as it may be takes fewer bytes than that, even with what the test itself makes to tell the calls.
 */
public final class RoomTest {
    private static final long MOST_BYTES = 7_300_000;
    private static final int CALLS = 512;
    private static final String MAP = Given.keys(-1, 99, key -> key == 99 ? -1 : key + 1);
    private static final int CALLS_AHEAD = 104;

    private RoomTest() {
    }

    public static void main(String[] args) {
        for (CallTable.Entry entry : CallTable.CALLS) {
            long before = bytesMade();
            Keywright x = Given.object(CallTable.ROW, MAP);
            for (int times = CALLS_AHEAD; times < CALLS; times++) {
                Calls.answer(x, entry.told());
            }
            long made = bytesMade() - before;
            Check.due(entry.told() + " made " + made + " bytes, too many", made > MOST_BYTES, false);
        }
        Check.end("RoomTest");
    }

    private static long bytesMade() {
        ThreadMXBean threads = (ThreadMXBean) ManagementFactory.getThreadMXBean();
        return threads.getThreadAllocatedBytes(Thread.currentThread().getId());
    }
}
