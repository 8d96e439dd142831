/** Promise 5: set. */
public final class P05SetTest {
    public static void main(String[] args) {
        ranges();
        periodGoesWithTheOthers();
        periodOfATouchedHub();
        whatItHoldsStays();
        Check.end();
    }

    private static void ranges() {
        int[] least = {0, 0, 0, 0, 1};
        int[] most = {40, 1, 2, 20, 20};
        Probe x = new Probe();
        x.hub(0, 1);
        for (int what = 0; what < 5; what++) {
            Check.due("set(1, " + what + ", most)", x.set(1, what, most[what]), least[what]);
            Check.due("hubOf(1, " + what + ")", x.hubOf(1, what), most[what]);
            Check.due("set(1, " + what + ", most + 1)", x.set(1, what, most[what] + 1), Check.INVALID);
            Check.due("set(1, " + what + ", least - 1)", x.set(1, what, least[what] - 1), Check.INVALID);
            Check.due("hubOf(1, " + what + ")", x.hubOf(1, what), most[what]);
            Check.due("set(1, " + what + ", least)", x.set(1, what, least[what]), most[what]);
        }
        Check.due("set(1, 5, 1)", x.set(1, 5, 1), Check.INVALID);
        Check.due("set(1, -1, 1)", x.set(1, -1, 1), Check.INVALID);
        Check.due("set(2, 0, 1)", x.set(2, 0, 1), Check.INVALID);
        Check.due("set(-1, 0, 1)", x.set(-1, 0, 1), Check.INVALID);
        // A value that is the old one is a change, too.
        Check.due("undo()", x.undo(), 3);
        Check.due("set(0, 0, 0)", x.set(0, 0, 0), 0);
        Check.due("count(9)", x.count(9), 4);
        Check.due("set(0, 0, 41)", x.set(0, 0, 41), Check.INVALID);
        Check.due("undo()", x.undo(), 3);
    }

    private static void periodGoesWithTheOthers() {
        Probe x = new Probe();
        Check.due("set(0, 4, 12)", x.set(0, 4, 12), 1);
        x.hub(0, 6);
        x.unit(1, 3);
        x.hub(1, 2);
        Check.due("set(1, 4, 8)", x.set(1, 4, 8), Check.IMPOSSIBLE);
        Check.due("set(1, 4, 5)", x.set(1, 4, 5), Check.IMPOSSIBLE);
        Check.due("set(1, 4, 4)", x.set(1, 4, 4), Check.IMPOSSIBLE);
        Check.due("set(1, 4, 3)", x.set(1, 4, 3), Check.IMPOSSIBLE);
        Check.due("set(1, 4, 12)", x.set(1, 4, 12), 6);
        Check.due("set(1, 4, 1)", x.set(1, 4, 1), 12);
        // Goes with the children, but not with the hub above.
        Check.due("set(1, 4, 18)", x.set(1, 4, 18), Check.IMPOSSIBLE);
        // Not with a unit; once that is taken off, it is no child.
        Check.due("set(1, 4, 4)", x.set(1, 4, 4), Check.IMPOSSIBLE);
        x.takeOff(0);
        Check.due("set(1, 4, 4)", x.set(1, 4, 4), 1);
        // The root has no hub above.
        Check.due("set(0, 4, 20)", x.set(0, 4, 20), 12);
        Check.due("set(0, 4, 6)", x.set(0, 4, 6), Check.IMPOSSIBLE);
        Check.due("set(0, 4, 21)", x.set(0, 4, 21), Check.INVALID);
    }

    private static void periodOfATouchedHub() {
        Probe x = new Probe();
        x.hub(0, 1);
        x.hub(1, 1);
        x.unit(2, 1);
        x.set(2, 0, 5);
        x.set(2, 3, 3);
        x.set(1, 0, 40);
        x.set(1, 1, 1);
        x.hub(2, 1);
        x.unit(2, 1);
        x.send(0, 0, 1, 0, 1);
        // A frame on its way is in no slot yet.
        Check.due("set(2, 4, 2)", x.set(2, 4, 2), 1);
        Check.due("set(2, 4, 1)", x.set(2, 4, 1), 2);
        x.pass(1);
        Check.due("hubOf(2, 9)", x.hubOf(2, 9), 1);
        Check.due("set(2, 4, 2), it has a slot", x.set(2, 4, 2), Check.IMPOSSIBLE);
        Check.due("set(2, 4, 1), it has a slot", x.set(2, 4, 1), Check.IMPOSSIBLE);
        Check.due("set(3, 4, 2), the one above has a slot", x.set(3, 4, 2), Check.IMPOSSIBLE);
        Check.due("set(1, 4, 2), the one below has a slot", x.set(1, 4, 2), 1);
        Check.due("set(1, 4, 1)", x.set(1, 4, 1), 2);
        x.pass(4);
        Check.due("hubOf(2, 10)", x.hubOf(2, 10), 1);
        Check.due("hubOf(2, 9)", x.hubOf(2, 9), 0);
        Check.due("set(2, 4, 2), it has released", x.set(2, 4, 2), Check.IMPOSSIBLE);
        Check.due("set(3, 4, 2), the one above has released", x.set(3, 4, 2), Check.IMPOSSIBLE);
        Check.due("set(1, 4, 2), its frame is on its way", x.set(1, 4, 2), 1);
        x.pass(3);
        Check.due("set(1, 4, 1)", x.set(1, 4, 1), Check.IMPOSSIBLE);
        Check.due("set(0, 4, 2)", x.set(0, 4, 2), 1);
        Check.due("set(1, 0, 0)", x.set(1, 0, 0), 40);
        x.pass(1);
        Check.due("count(4)", x.count(4), 1);
        Check.due("set(0, 4, 1)", x.set(0, 4, 1), Check.IMPOSSIBLE);
        Check.due("set(0, 4, 0)", x.set(0, 4, 0), Check.INVALID);
    }

    private static void whatItHoldsStays() {
        Probe x = new Probe();
        x.hub(0, 1);
        x.unit(1, 1);
        x.unit(1, 1);
        x.set(1, 0, 10);
        x.set(1, 3, 9);
        x.send(0, 0, 1, 0, 1);
        x.pass(2);
        Check.due("slotAt(1, 0, 5)", x.slotAt(1, 0, 5), 8);
        x.set(1, 0, 4);
        Check.due("slotAt(1, 0, 5)", x.slotAt(1, 0, 5), 2);
        x.set(1, 1, 1);
        Check.due("slotAt(1, 0, 5)", x.slotAt(1, 0, 5), 3);
        x.set(1, 0, 0);
        Check.due("slotAt(1, 0, 5)", x.slotAt(1, 0, 5), 0);
        Check.due("hubOf(1, 9)", x.hubOf(1, 9), 1);
        x.pass(1);
        Check.due("hubOf(1, 14)", x.hubOf(1, 14), 1);
        // The frame on its way keeps the delay with which it was released.
        x.set(1, 3, 1);
        Check.due("nextOut()", x.nextOut(), 9);
        Check.due("unitOf(0, 5)", x.unitOf(0, 5), 1);
    }
}
