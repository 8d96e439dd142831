/** Promise 11: slotAt. */
public final class P11SlotAtTest {
    private static void expect(Probe x, int index, int... facts) {
        for (int what = 0; what < facts.length; what++) {
            Check.due("slotAt(0, " + index + ", " + what + ")", x.slotAt(0, index, what), facts[what]);
        }
    }

    public static void main(String[] args) {
        Probe x = new Probe();
        x.set(0, 4, 4);
        x.unit(0, 2);
        x.unit(0, 4);
        x.unit(0, 8);
        x.hub(0, 12);
        x.unit(1, 12);
        x.set(0, 0, 40);
        x.pass(24);
        expect(x, 0, Check.ABSENT, Check.ABSENT, Check.ABSENT, Check.ABSENT, Check.ABSENT, Check.ABSENT);
        x.send(1, 20, 1, 0, 1);
        x.send(0, 18, 1, 0, 2);
        x.send(2, 16, 1, 0, 1);
        x.send(0, 22, 1, 0, 3);
        x.send(3, 0, 1, 0, 3);
        x.pass(2);
        // Slots 16 (units 0, 1 and 2), 20 (units 0 and 1); 24 and 0 are to come.
        expect(x, 0, 16, 25, 1, 4, 0, 30);
        expect(x, 1, 20, 25, 2, 3, 0, 34);
        x.pass(1);
        expect(x, 0, 0, 27, 1, 5, 0, 13);
        expect(x, 1, 16, 25, 1, 4, 0, 29);
        expect(x, 2, 20, 25, 2, 3, 0, 33);
        expect(x, 3, 24, 27, 1, 5, 0, 37);
        x.set(0, 1, 1);
        expect(x, 0, 0, 27, 1, 5, 0, 40);
        expect(x, 2, 20, 25, 2, 3, 0, 38);
        x.send(0, 20, 1, 0, 1);
        x.pass(1);
        expect(x, 2, 20, 25, 3, 3, 1, 37);
        // The frames of one that was taken off count, but are not expected.
        x.takeOff(1);
        expect(x, 2, 20, 25, 3, 2, 1, 37);
        expect(x, 0, 0, 27, 1, 4, 0, 39);
        x.takeOff(0);
        expect(x, 2, 20, 25, 3, 0, 1, 37);
        x.set(0, 0, 0);
        expect(x, 0, 0, 27, 1, 2, 0, 0);
        x.set(0, 1, 0);
        expect(x, 3, 24, 27, 1, 2, 0, 0);
        expect(x, 4, Check.ABSENT);
        Check.due("slotAt(0, 2147483647, 0)", x.slotAt(0, Integer.MAX_VALUE, 0), Check.ABSENT);
        Check.due("slotAt(0, 0, 6)", x.slotAt(0, 0, 6), Check.INVALID);
        Check.due("slotAt(0, 0, -1)", x.slotAt(0, 0, -1), Check.INVALID);
        Check.due("slotAt(0, 9, 6)", x.slotAt(0, 9, 6), Check.INVALID);
        Check.due("slotAt(0, -1, 0)", x.slotAt(0, -1, 0), Check.INVALID);
        Check.due("slotAt(2, 0, 0)", x.slotAt(2, 0, 0), Check.INVALID);
        Check.due("slotAt(-1, 0, 0)", x.slotAt(-1, 0, 0), Check.INVALID);
        slotZero();
        fromAHubAtOnce();
        Check.end();
    }

    private static void fromAHubAtOnce() {
        Probe x = new Probe();
        x.hub(0, 1);
        x.unit(1, 1);
        x.unit(0, 1);
        x.set(1, 1, 1);
        x.set(1, 0, 7);
        x.unit(1, 1);
        x.set(0, 1, 1);
        x.set(0, 0, 9);
        x.send(0, 0, 1, 0, 2);
        x.pass(10);
        expect(x, 0, 0, 9, 1, 2, 0, 8);
    }

    private static void slotZero() {
        // The slot 0 expects of a quick child as many as any other one, so it cannot be complete.
        Probe x = new Probe();
        x.set(0, 4, 3);
        x.unit(0, 1);
        x.set(0, 0, 5);
        x.send(0, 0, 1, 0, 1);
        x.pass(1);
        Check.due("slotAt(0, 0, 3)", x.slotAt(0, 0, 3), 3);
        Check.due("slotAt(0, 0, 4)", x.slotAt(0, 0, 4), 0);
        x.pass(3);
        Check.due("slotAt(0, 0, 5)", x.slotAt(0, 0, 5), 1);
        x.pass(1);
        Check.due("outAt(0, 1)", x.outAt(0, 1), 5);
    }
}
