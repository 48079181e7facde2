import com.sun.management.ThreadMXBean;
import java.lang.management.ManagementFactory;

/** All calls of a run live in one room: an object is small, and its calls make nothing. */
public final class RoomTest {
    /** 7.3 million elements are some 29 MB; a new object may take a thousandth of that. */
    private static final long MOST_OF_AN_OBJECT = 29_000;
    private static final int OBJECTS = 400;
    private static final int CALLS = 512;
    private static final Check check = new Check("RoomTest");
    private static final ThreadMXBean THREADS = (ThreadMXBean) ManagementFactory.getThreadMXBean();
    private static int sink = 0;

    public static void main(String[] args) {
        // The first of them loads classes, which is counted too.
        for (int i = 0; i < 3; i++) {
            bytesOfObjects();
            bytesOfCalls();
        }
        long object = bytesOfObjects() / OBJECTS;
        long calls = bytesOfCalls();
        check.holds("an object takes " + object + " bytes", object <= MOST_OF_AN_OBJECT);
        check.holds(CALLS + " calls take " + calls + " bytes", calls < CALLS);
        check.holds("the calls were made", sink != 0);
        check.end();
    }

    private static long taken() {
        return THREADS.getThreadAllocatedBytes(Thread.currentThread().getId());
    }

    private static long bytesOfObjects() {
        long before = taken();
        for (int i = 0; i < OBJECTS; i++) {
            sink += new ShrinkBench().feed(1);
        }
        return taken() - before;
    }

    private static long bytesOfCalls() {
        ShrinkBench x = Kit.with(
                Kit.in(Kit.NEXT, 0, 0, 0), Kit.in(Kit.SET, 1, 100, 0), Kit.in(Kit.IF_LESS, 0, 1, 4),
                Kit.in(Kit.CALL, 0, 0, 5), Kit.in(Kit.END, 0, 0, 0), Kit.in(Kit.CHECK, 7, 0, 0));
        Kit.tape(x, 250, 3, 2, 1);
        long before = taken();
        for (int i = 0; i < CALLS / 16; i++) {
            sink += x.feed(i) + x.attempt(i % 2) + x.merge(i % 2) + x.change(0, i % 7, i, i);
            sink += x.change(1, 3, i, 3) + x.cut(0, 0) + x.runs() + x.pool(0, 0);
            sink += x.first(0, 0) + x.least(0, 0) + x.unseen(4) + x.about(0, 2);
            sink += x.run() + x.told(4) + x.called(0) + x.keep(0);
        }
        return taken() - before;
    }
}
