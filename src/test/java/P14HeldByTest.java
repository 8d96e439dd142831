/** Promise 14: heldBy. */
public final class P14HeldByTest {
    private static void expect(Probe x, int hub, int unit, int value, int flags) {
        Check.due("heldBy(" + hub + ", " + unit + ", 0)", x.heldBy(hub, unit, 0), value);
        Check.due("heldBy(" + hub + ", " + unit + ", 1)", x.heldBy(hub, unit, 1), flags);
    }

    public static void main(String[] args) {
        Probe x = new Probe();
        expect(x, 0, 0, Check.INVALID, Check.INVALID);
        x.hub(0, 1);
        x.hub(0, 1);
        x.unit(1, 1);
        x.unit(1, 2);
        x.set(1, 3, 4);
        expect(x, 1, 0, Check.ABSENT, Check.ABSENT);
        x.send(0, 0, 3, 8, 1);
        x.send(1, 0, 4, 1, 1);
        x.pass(1);
        expect(x, 1, 0, 3, 8);
        expect(x, 1, 1, 4, 1);
        expect(x, 0, 0, Check.ABSENT, Check.ABSENT);
        expect(x, 2, 0, Check.ABSENT, Check.ABSENT);
        // A reading that was held is the latest one released, with its flag.
        x.send(0, 1, 5, 0, 1);
        x.pass(1);
        expect(x, 1, 0, 5, 0);
        expect(x, 1, 1, 4, 128 + 1);
        // One that is missing leaves the one before.
        x.send(1, 2, 6, 0, 1);
        x.pass(1);
        expect(x, 1, 0, 5, 0);
        expect(x, 1, 1, 6, 0);
        x.pass(2);
        expect(x, 0, 0, 3, 8);
        x.takeOff(0);
        expect(x, 1, 0, 5, 0);
        expect(x, 0, 0, 3, 8);
        Check.due("heldBy(0, 0, 2)", x.heldBy(0, 0, 2), Check.INVALID);
        Check.due("heldBy(0, 0, -1)", x.heldBy(0, 0, -1), Check.INVALID);
        Check.due("heldBy(2, 0, 2)", x.heldBy(2, 0, 2), Check.INVALID);
        expect(x, 3, 0, Check.INVALID, Check.INVALID);
        expect(x, -1, 0, Check.INVALID, Check.INVALID);
        expect(x, 0, 2, Check.INVALID, Check.INVALID);
        expect(x, 0, -1, Check.INVALID, Check.INVALID);
        Check.end();
    }
}
