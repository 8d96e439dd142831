/** Promise 2: hub. */
public final class P02HubTest {
    public static void main(String[] args) {
        adds();
        refuses();
        Check.end();
    }

    private static void adds() {
        Probe x = new Probe();
        Check.due("hub(0, 20)", x.hub(0, 20), 1);
        Check.due("hub(1, 1)", x.hub(1, 1), 2);
        Check.due("hub(1, 5)", x.hub(1, 5), 3);
        Check.due("count(9)", x.count(9), 3);
        Check.due("hubOf(3, 5)", x.hubOf(3, 5), 1);
        Check.due("hubOf(3, 6)", x.hubOf(3, 6), 2);
        Check.due("hubOf(3, 4)", x.hubOf(3, 4), 5);
        for (int what = 0; what < 4; what++) {
            Check.due("hubOf(3, " + what + ")", x.hubOf(3, what), 0);
        }
        Check.due("hub(3, 10)", x.hub(3, 10), 4);
        Check.due("count(0)", x.count(0), 5);
        Check.due("hubOf(4, 6)", x.hubOf(4, 6), 3);
        // What was set or released by a hub that undo takes back is not there in the next one with its number.
        Check.due("set(4, 0, 7)", x.set(4, 0, 7), 0);
        Check.due("undo()", x.undo(), 3);
        Check.due("undo()", x.undo(), 2);
        Check.due("hubOf(4, 0)", x.hubOf(4, 0), Check.INVALID);
        Check.due("hub(0, 4)", x.hub(0, 4), 4);
        Check.due("hubOf(4, 0)", x.hubOf(4, 0), 0);
        Check.due("hubOf(4, 5)", x.hubOf(4, 5), 0);
    }

    private static void refuses() {
        Probe x = new Probe();
        Check.due("hub(-1, 1)", x.hub(-1, 1), Check.INVALID);
        Check.due("hub(1, 1)", x.hub(1, 1), Check.INVALID);
        Check.due("hub(0, 0)", x.hub(0, 0), Check.INVALID);
        Check.due("hub(0, 21)", x.hub(0, 21), Check.INVALID);
        Check.due("hub(0, -2147483648)", x.hub(0, Integer.MIN_VALUE), Check.INVALID);
        Check.due("hub(2147483647, 1)", x.hub(Integer.MAX_VALUE, 1), Check.INVALID);
        Check.due("set(0, 4, 6)", x.set(0, 4, 6), 1);
        Check.due("hub(0, 4)", x.hub(0, 4), Check.IMPOSSIBLE);
        Check.due("hub(0, 9)", x.hub(0, 9), Check.IMPOSSIBLE);
        Check.due("hub(0, 3)", x.hub(0, 3), 1);
        Check.due("hub(0, 12)", x.hub(0, 12), 2);
        Check.due("hub(0, 6)", x.hub(0, 6), 3);
        Check.due("hub(0, 1)", x.hub(0, 1), 4);
        // Of the errors: out of range, then not possible, then the limit.
        Check.due("hub(5, 4)", x.hub(5, 4), Check.INVALID);
        Check.due("hub(0, 0)", x.hub(0, 0), Check.INVALID);
        Check.due("hub(0, 4)", x.hub(0, 4), Check.IMPOSSIBLE);
        Check.due("hub(0, 3)", x.hub(0, 3), Check.LIMIT);
        Check.due("count(0)", x.count(0), 5);
        Check.due("hubOf(0, 7)", x.hubOf(0, 7), 4);
        Check.due("undo()", x.undo(), 3);
        Check.due("count(0)", x.count(0), 4);
    }
}
