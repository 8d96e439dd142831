/** Promise 17: count. */
public final class P17CountTest {
    private static void expect(Probe x, int... counts) {
        for (int what = 0; what < counts.length; what++) {
            Check.due("count(" + what + ")", x.count(what), counts[what]);
        }
    }

    public static void main(String[] args) {
        Probe x = new Probe();
        Check.due("count(-1)", x.count(-1), Check.INVALID);
        Check.due("count(11)", x.count(11), Check.INVALID);
        Check.due("count(-2147483648)", x.count(Integer.MIN_VALUE), Check.INVALID);
        x.hub(0, 5);
        x.unit(0, 1);
        x.unit(1, 1);
        x.unit(1, 1);
        x.takeOff(2);
        x.set(1, 0, 40);
        Check.text(x, "p1;");
        expect(x, 2, 2, 0, 0, 0, 0, 0, 0, Check.ABSENT, 4, 3);
        x.pass(6);
        x.send(0, 4, 1, 0, 1);
        x.send(0, 4, 1, 0, 2);
        x.send(1, 4, 1, 0, 1);
        x.send(1, 4, 1, 0, 1);
        expect(x, 2, 2, 6, 4, 0, 0, 0, 0, Check.ABSENT, 4, 3);
        x.pass(2);
        expect(x, 2, 2, 8, 0, 1, 1, 1, 1, 3, 4, 3);
        x.send(0, 8, 1, 0, 1);
        x.pass(1);
        expect(x, 2, 2, 9, 0, 2, 2, 1, 1, 3, 4, 3);
        x.send(0, 9, 1, 0, 10);
        x.pass(10);
        expect(x, 2, 2, 19, 0, 3, 3, 1, 1, 10, 4, 3);
        // Undo takes back all but the text.
        x.clearText();
        x.undo();
        x.undo();
        expect(x, 2, 2, 9, 0, 2, 2, 1, 1, 3, 2, 0);
        aheadOfTheirStamps();
        lateAndDoubleOfAllHubs();
        Check.end();
    }

    private static void aheadOfTheirStamps() {
        Probe y = new Probe();
        y.set(0, 4, 10);
        y.set(0, 1, 1);
        y.unit(0, 1);
        y.pass(1);
        y.send(0, 1, 1, 0, 1);
        y.pass(1);
        Check.due("outAt(0, 0)", y.outAt(0, 0), 10);
        Check.due("count(8)", y.count(8), -8);
        y.pass(10);
        y.send(0, 11, 1, 0, 1);
        y.pass(1);
        Check.due("outAt(0, 0)", y.outAt(0, 0), 20);
        Check.due("count(8)", y.count(8), -7);
        y.pass(10);
        y.send(0, 22, 1, 0, 1);
        y.pass(1);
        Check.due("outAt(0, 0)", y.outAt(0, 0), 30);
        Check.due("count(8)", y.count(8), -6);
        y.send(0, 23, 1, 0, 1);
        y.pass(1);
        Check.due("count(6)", y.count(6), 1);
        Check.due("count(8)", y.count(8), -6);
    }

    private static void lateAndDoubleOfAllHubs() {
        Probe x = new Probe();
        for (int hub = 0; hub < 5; hub++) {
            if (hub > 0) {
                x.hub(0, 1);
            }
            x.unit(hub, 1);
            x.unit(hub, 1);
            x.set(hub, 0, 40);
        }
        x.pass(2);
        for (int hub = 0; hub < 5; hub++) {
            x.send(2 * hub, 1, 0, 0, 1);
            x.send(2 * hub, 1, 0, 0, 2);
            x.pass(2);
            Check.due("count(7)", x.count(7), hub + 1);
            x.takeOff(2 * hub + 1);
            x.send(2 * hub, 0, 0, 0, 2);
            x.pass(2);
        }
        // The root had to wait for all; in it the stamp 0 is a slot of its own.
        Check.due("count(6)", x.count(6), 4);
        Check.due("hubOf(0, 12)", x.hubOf(0, 12), 1);
        Check.due("hubOf(0, 11)", x.hubOf(0, 11), 0);
    }
}
