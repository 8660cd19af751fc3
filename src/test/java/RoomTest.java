import com.sun.management.ThreadMXBean;
import java.lang.management.ManagementFactory;

/** All calls of a run live in one room: an object is small, and no call makes anything. */
public final class RoomTest {
    private static final Due due = new Due();
    private static final int CALLS_BYTES = 4096;
    private static final int OBJECT_BYTES = 40000;

    private static final ThreadMXBean threads = (ThreadMXBean) ManagementFactory.getThreadMXBean();

    public static void main(String[] args) {
        run(new SlicedReads());
        long before = threads.getCurrentThreadAllocatedBytes();
        SlicedReads x = new SlicedReads();
        long made = threads.getCurrentThreadAllocatedBytes();
        run(x);
        long used = threads.getCurrentThreadAllocatedBytes();
        due.equal("a new object's " + (made - before) + " bytes are few", made - before < OBJECT_BYTES ? 1 : 0, 1);
        due.equal("the calls' " + (used - made) + " bytes are few", used - made < CALLS_BYTES ? 1 : 0, 1);
        due.end("RoomTest");
    }

    private static void run(SlicedReads x) {
        for (int i = 0; i < 10; i++) {
            x.refer(0x1B2D8E47 * i, 16);
        }
        for (int i = 0; i < 24; i++) {
            x.start(i * 5);
            x.edit(Calls.MATCH, 5);
            x.edit(Calls.INSERT, i % 4);
            x.edit(Calls.REMOVE, 9);
            x.finish();
        }
        for (int i = 0; i < 40; i++) {
            x.pack();
            x.unpack(i % 8);
            x.depth(i * 4);
            x.about(0, i % 4, true);
            x.base(0, 1, true);
            x.corrupt(0, x.at(0));
            x.blocks();
        }
    }
}
