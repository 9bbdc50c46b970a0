import com.sun.management.ThreadMXBean;
import java.lang.management.ManagementFactory;

/** What is made stays small: all calls of a run share one room of objects and elements. */
public final class RoomTest {
    private static final Check CHECK = new Check("RoomTest");
    private static final ThreadMXBean THREADS = (ThreadMXBean) ManagementFactory.getThreadMXBean();
    private static final int OBJECTS = 200;
    private static final int MOST_CALLS = 512;
    private static final int CALLS_OF_A_ROUND = 19;
    // Bytes, about four times what is needed now: room for another JVM's headers, not for a row made in every call.
    private static final long MOST_BY_CONSTRUCTOR = 10_000;
    private static final long MOST_BY_CALL = 120;
    private static final long MOST_BY_LOOK = 10;

    public static void main(String[] args) {
        if (THREADS.isThreadAllocatedMemorySupported()) {
            // The first time loads classes, which is not the program's own doing.
            measure(new Check("RoomTest, first time"));
            measure(CHECK);
        }
        CHECK.end();
    }

    private static void measure(Check check) {
        LeasedPages[] busy = new LeasedPages[OBJECTS];
        LeasedPages[] calm = new LeasedPages[OBJECTS];
        long constructors = bytesBy(() -> fill(busy)) / OBJECTS;
        fill(calm);
        long calls = bytesBy(() -> workWith(busy)) / OBJECTS / MOST_CALLS;
        long looks = bytesBy(() -> lookAt(calm)) / OBJECTS / MOST_CALLS;
        check.yes("a constructor: " + constructors + " bytes", constructors <= MOST_BY_CONSTRUCTOR);
        check.yes("a busy call: " + calls + " bytes", calls <= MOST_BY_CALL);
        check.yes("a look: " + looks + " bytes", looks <= MOST_BY_LOOK);
    }

    private static long bytesBy(Runnable work) {
        long before = THREADS.getThreadAllocatedBytes(Thread.currentThread().getId());
        work.run();
        return THREADS.getThreadAllocatedBytes(Thread.currentThread().getId()) - before;
    }

    private static void fill(LeasedPages[] all) {
        for (int i = 0; i < all.length; i++) {
            all[i] = new LeasedPages(20);
        }
    }

    private static void workWith(LeasedPages[] all) {
        int rounds = (MOST_CALLS - 1) / CALLS_OF_A_ROUND;
        for (LeasedPages x : all) {
            for (int i = 0; i < rounds; i++) {
                busyRound(x, i % 4);
            }
            CHECK.due("no call was refused: the next number", x.acquire(0, 0, 2), 3 * rounds + 1);
        }
    }

    /** A holder, two that wait, and a release that grants to both: nearly every call makes a message. */
    private static void busyRound(LeasedPages x, int f) {
        x.acquire(0, f, 2);
        deliver(x, 0, 2);
        x.acquire(1, f, 1);
        x.deliver(0);
        x.acquire(2, f, 1);
        x.deliver(1);
        x.write(0, f, 0, 7);
        x.flush(0);
        deliver(x, 2, 2);
        x.close(0, f);
        deliver(x, 2, 4);
        deliver(x, 0, 2);
        x.tick(3, 20);
    }

    private static void deliver(LeasedPages x, int i, int times) {
        for (int k = 0; k < times; k++) {
            x.deliver(i);
        }
    }

    private static void lookAt(LeasedPages[] all) {
        for (LeasedPages x : all) {
            x.acquire(0, 0, 2);
            int sum = 0;
            for (int calls = 1; calls + 9 <= MOST_CALLS; calls += 9) {
                sum += x.messages() + x.message(0) + x.clock(3) + x.lease(0, 0) + x.dirty(0) + x.held(0, 0)
                        + x.waiting(0) + x.stored(0, 0) + x.read(0, 0, 0, 0);
            }
            CHECK.yes("looked", sum != 0);
        }
    }
}
