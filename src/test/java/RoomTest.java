import java.lang.management.ManagementFactory;

/**
 * The room of one run, as bytes that the Java machine hands out: 7.3 million fields and elements of 4 bytes, and
 * 600,000 headers of 16, would be some 38 MB. Each run of 512 calls here has to stay far below that.
 */
public final class RoomTest {
    private static final long MOST_BYTES = 4_000_000;

    private static final com.sun.management.ThreadMXBean MACHINE =
            (com.sun.management.ThreadMXBean) ManagementFactory.getThreadMXBean();

    public static void main(String[] args) {
        manyKeptFrames();
        askingMakesNothing();
        theEndOfARowIsNoFault();
        Check.end();
    }

    private static long bytes() {
        return MACHINE.getThreadAllocatedBytes(Thread.currentThread().getId());
    }

    /** Hub 1 of the root with two units; it releases what one of them sends 40 ticks after it came. */
    private static PhasorTree waiting() {
        PhasorTree x = new PhasorTree();
        x.hub(0, 1);
        x.unit(1, 1);
        x.unit(1, 1);
        x.set(1, 0, 40);
        x.set(1, 1, 1);
        x.set(1, 3, 20);
        return x;
    }

    /** Sends as many stamps as it can, downward, so that no slot's wait ends; true if all of them are kept. */
    private static boolean fill(PhasorTree x, int frames) {
        for (int i = 0; i < 20; i++) {
            x.pass(100);
        }
        for (int i = 0; i < frames; i++) {
            x.send(0, 1999 - i, i, 0, 1);
            if (i % 40 == 39) {
                x.pass(1);
            }
        }
        x.pass(1);
        return x.hubOf(1, 9) == frames;
    }

    private static void manyKeptFrames() {
        long before = bytes();
        PhasorTree x = waiting();
        Check.holds("all are kept", fill(x, 460));
        x.set(1, 0, 0);
        Check.due("foresee(200)", x.foresee(200), 1999);
        x.pass(1);
        Check.due("count(3)", x.count(3), 460);
        x.pass(20);
        Check.due("count(4)", x.count(4), 460);
        Check.holds("the room of 512 calls with 460 frames", bytes() - before < MOST_BYTES);
    }

    private static void askingMakesNothing() {
        PhasorTree x = waiting();
        fill(x, 300);
        Check.text(x, "p100;p100;p100;p100;p100;p100;p100;p100;p100;p100;p100;");
        x.fault(0);
        x.nextOut();
        x.set(1, 0, 0);
        x.foresee(200);
        long before = bytes();
        for (int i = 0; i < 100; i++) {
            x.foresee(200);
            x.nextOut();
            x.fault(0);
            x.slotAt(1, 299, 3);
            x.set(1, 0, 40);
            x.undo();
        }
        Check.holds("calls use their rows again", bytes() - before < 100_000);
    }

    /** Far beyond the 512th call answers are free, but no call may fail. */
    private static void theEndOfARowIsNoFault() {
        PhasorTree x = waiting();
        fill(x, 1500);
        x.set(1, 0, 0);
        x.foresee(200);
        x.pass(100);
        Check.holds("there are outputs", x.count(4) > 0);
    }
}
