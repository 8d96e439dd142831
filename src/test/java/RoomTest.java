import java.lang.management.ManagementFactory;

/**
 * The room of one run, as bytes that the Java machine hands out: 7.3 million fields and elements of 4 bytes at
 * least. Each run of at most 512 calls here has to stay below half of that.
 */
public final class RoomTest {
    private static final long MOST_BYTES = 4L * 7_300_000 / 2;

    private static final com.sun.management.ThreadMXBean MACHINE =
            (com.sun.management.ThreadMXBean) ManagementFactory.getThreadMXBean();

    public static void main(String[] args) {
        manyKeptFrames();
        manyTimesForetold();
        manyTextsPlayed();
        Check.end();
    }

    private static long bytes() {
        return MACHINE.getThreadAllocatedBytes(Thread.currentThread().getId());
    }

    private static void staysSmall(String what, long before) {
        Check.holds("the room of " + what, bytes() - before < MOST_BYTES);
    }

    /** Hub 1 of the root with two units; it releases what one of them sends 40 ticks after it came. */
    private static Probe waiting() {
        Probe x = new Probe();
        x.hub(0, 1);
        x.unit(1, 1);
        x.unit(1, 1);
        x.set(1, 0, 40);
        x.set(1, 1, 1);
        x.set(1, 3, 20);
        return x;
    }

    /** Sends as many stamps as it is told, downward, so that no slot's wait ends. */
    private static void fill(Probe x, int frames) {
        for (int i = 0; i < 5; i++) {
            x.pass(100);
        }
        for (int i = 0; i < frames; i++) {
            x.send(0, 499 - i, i, 0, 1);
            if (i % 40 == 39) {
                x.pass(1);
            }
        }
        x.pass(1);
        x.due(frames, "hubOf", 1, 9);
    }

    private static void manyKeptFrames() {
        long before = bytes();
        Probe x = waiting();
        fill(x, 470);
        x.set(1, 0, 0);
        x.due(499, "foresee", 200);
        x.due(513, "pass", 1);
        x.due(470, "count", 3);
        x.pass(20);
        x.due(470, "count", 4);
        staysSmall("512 calls with 470 frames", before);
    }

    private static void manyTimesForetold() {
        long before = bytes();
        Probe x = waiting();
        fill(x, 150);
        while (x.callsLeft() > 4) {
            x.set(1, 0, 0);
            x.due(499, "foresee", 200);
            x.due(21, "nextOut");
            x.undo();
        }
        staysSmall("350 calls that foretell", before);
    }

    private static void manyTextsPlayed() {
        long before = bytes();
        Probe x = waiting();
        fill(x, 150);
        Check.text(x, "m0,0,0;m0,1,1;m0,2,2;m0,3,3;m0,4,4;m0,5,5;m0,6,6;p1;p1;");
        while (x.callsLeft() > 4) {
            x.due(Check.ABSENT, "fault", 0);
            x.due(9, "play");
            x.due(3, "undo");
        }
        staysSmall("200 texts played", before);
    }
}
