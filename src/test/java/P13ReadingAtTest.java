/** Promise 13: readingAt, and how a reading is made of those in a slot. */
public final class P13ReadingAtTest {
    public static void main(String[] args) {
        arguments();
        rateByTheLastOne();
        mean();
        median();
        validOnesAlone();
        slowChild();
        acrossHubs();
        Check.end();
    }

    private static void expect(Probe x, int index, int unit, int value, int flags) {
        Check.due("readingAt(" + index + ", " + unit + ", 0)", x.readingAt(index, unit, 0), value);
        Check.due("readingAt(" + index + ", " + unit + ", 1)", x.readingAt(index, unit, 1), flags);
    }

    private static void arguments() {
        Probe x = new Probe();
        Check.due("readingAt(0, 0, 0)", x.readingAt(0, 0, 0), Check.INVALID);
        x.unit(0, 1);
        x.unit(0, 1);
        expect(x, 0, 0, Check.ABSENT, Check.ABSENT);
        x.send(0, 0, -7, 9, 1);
        x.pass(1);
        expect(x, 0, 0, -7, 9);
        expect(x, 0, 1, Check.ABSENT, Check.ABSENT);
        expect(x, 1, 0, Check.ABSENT, Check.ABSENT);
        expect(x, Integer.MAX_VALUE, 0, Check.ABSENT, Check.ABSENT);
        expect(x, -1, 0, Check.INVALID, Check.INVALID);
        expect(x, 0, 2, Check.INVALID, Check.INVALID);
        expect(x, 0, -1, Check.INVALID, Check.INVALID);
        expect(x, 5, 2, Check.INVALID, Check.INVALID);
        Check.due("readingAt(0, 0, 2)", x.readingAt(0, 0, 2), Check.INVALID);
        Check.due("readingAt(0, 0, -1)", x.readingAt(0, 0, -1), Check.INVALID);
        Check.due("readingAt(1, 0, 2)", x.readingAt(1, 0, 2), Check.INVALID);
        // The output keeps the reading of a unit that is taken off later.
        x.takeOff(0);
        expect(x, 0, 0, -7, 9);
    }

    /** A root of the period 4 with this filter, a unit of the period 1 and one of 4, at the time 8. */
    private static Probe quick(int filter) {
        Probe x = new Probe();
        x.set(0, 4, 4);
        x.set(0, 2, filter);
        x.unit(0, 1);
        x.unit(0, 4);
        x.pass(8);
        x.set(0, 0, 2);
        return x;
    }

    private static void sendRow(Probe x, int firstStamp, int... values) {
        for (int i = 0; i < values.length; i++) {
            x.send(0, firstStamp + i, values[i], 0, 1);
        }
    }

    private static void rateByTheLastOne() {
        Probe x = quick(0);
        sendRow(x, 1, 10, 20, 30, 40);
        x.send(1, 4, 5, 1, 1);
        x.pass(1);
        expect(x, 0, 0, 40, 0);
        expect(x, 0, 1, 5, 1);
        sendRow(x, 5, 10, 20, 30);
        x.pass(1);
        expect(x, 0, 0, Check.ABSENT, Check.ABSENT);
        Check.due("outAt(0, 4)", x.outAt(0, 4), 2);
    }

    private static void mean() {
        Probe x = quick(1);
        sendRow(x, 1, -1, -2, -2, -2);
        x.send(1, 4, 5, 3, 1);
        x.pass(1);
        // -7 / 4 is rounded toward 0; the unit of the same period is not filtered.
        expect(x, 0, 0, -1, 64);
        expect(x, 0, 1, 5, 3);
        x.send(0, 5, 100000, 2, 1);
        x.send(0, 7, 99999, 8, 1);
        x.pass(1);
        expect(x, 0, 0, 99999, 64 + 32 + 8 + 2);
        expect(x, 0, 1, Check.ABSENT, Check.ABSENT);
        x.send(1, 8, 1, 0, 1);
        x.pass(1);
        Check.due("hubOf(0, 11)", x.hubOf(0, 11), 1);
        // The slot 0 expects four, and can have one.
        Probe y = quick(1);
        y.send(0, 0, 9, 0, 1);
        y.pass(1);
        expect(y, 0, 0, 9, 64 + 32);
    }

    private static void median() {
        Probe x = quick(2);
        sendRow(x, 1, 9, -3, 7, 5);
        x.send(1, 4, 5, 0, 1);
        x.pass(1);
        expect(x, 0, 0, 5, 64);
        x.send(0, 6, 8, 0, 1);
        x.send(0, 5, 9, 0, 1);
        x.send(0, 8, -100000, 0, 1);
        x.pass(1);
        expect(x, 0, 0, 8, 64 + 32);
        // Twenty of them.
        Probe y = new Probe();
        y.set(0, 4, 20);
        y.set(0, 2, 2);
        y.unit(0, 1);
        y.set(0, 0, 40);
        y.pass(20);
        for (int i = 0; i < 20; i++) {
            y.send(0, 20 - i, i * 7 % 20, 0, 1);
        }
        y.pass(1);
        expect(y, 0, 0, 9, 64);
    }

    private static void validOnesAlone() {
        Probe x = quick(1);
        x.send(0, 1, 100, 1, 1);
        x.send(0, 2, 10, 2, 1);
        x.send(0, 3, 20, 4, 1);
        x.send(0, 4, 1000, 9, 1);
        x.send(1, 4, 5, 0, 1);
        x.pass(1);
        expect(x, 0, 0, 15, 64 + 32 + 4 + 2);
        x.send(0, 5, 1, 1, 1);
        x.send(0, 6, 2, 3, 1);
        x.send(0, 7, 4, 5, 1);
        x.send(0, 8, 6, 1, 1);
        x.send(1, 8, 5, 0, 1);
        x.pass(1);
        expect(x, 0, 0, 3, 64 + 4 + 2 + 1);
        Probe y = quick(2);
        y.send(0, 1, 1, 1, 1);
        y.send(0, 2, 60, 0, 1);
        y.send(0, 3, 50, 0, 1);
        y.send(0, 4, 2, 1, 1);
        y.send(1, 4, 5, 0, 1);
        y.pass(1);
        expect(y, 0, 0, 50, 64 + 32);
        // The first one alone is valid.
        Probe w = quick(1);
        w.send(0, 1, 30, 0, 1);
        w.send(0, 2, 60, 1, 1);
        w.send(0, 3, 50, 1, 1);
        w.pass(1);
        expect(w, 0, 0, 30, 64 + 32);
        // What the next slot has is not taken.
        Probe v = quick(1);
        v.set(0, 0, 5);
        v.send(0, 3, 30, 0, 1);
        v.send(0, 5, 60, 0, 1);
        v.pass(1);
        expect(v, 0, 0, 30, 64 + 32);
        Check.due("hubOf(0, 9)", v.hubOf(0, 9), 1);
        // With the filter 0 the one with the stamp is taken though it is not valid.
        Probe z = quick(0);
        z.send(0, 3, 60, 0, 1);
        z.send(0, 4, 2, 1, 1);
        z.pass(1);
        expect(z, 0, 0, 2, 1);
    }

    private static void slowChild() {
        Probe x = new Probe();
        x.set(0, 2, 1);
        x.unit(0, 3);
        x.unit(0, 1);
        x.set(0, 0, 1);
        x.pass(7);
        x.send(1, 1, 1, 0, 1);
        x.pass(1);
        expect(x, 0, 0, Check.ABSENT, Check.ABSENT);
        x.send(0, 3, 33, 2, 1);
        x.send(1, 3, 1, 0, 1);
        x.send(1, 4, 1, 0, 1);
        x.pass(1);
        expect(x, 1, 0, 33, 2);
        expect(x, 0, 0, 33, 128 + 2);
        // Held a second time it is as it was; a frame that is missed is not held.
        x.send(1, 5, 1, 0, 1);
        x.send(1, 6, 1, 0, 1);
        x.send(1, 7, 1, 0, 1);
        x.pass(1);
        expect(x, 2, 0, 33, 128 + 2);
        expect(x, 1, 0, Check.ABSENT, Check.ABSENT);
        expect(x, 0, 0, 33, 128 + 2);
    }

    private static void acrossHubs() {
        // Unit 0 (1) at hub 2 (2, mean) at hub 1 (6, median) at the root (3).
        Probe x = new Probe();
        x.set(0, 4, 3);
        x.hub(0, 6);
        x.hub(1, 2);
        x.unit(2, 1);
        x.unit(2, 2);
        x.set(2, 2, 1);
        x.set(1, 2, 2);
        x.set(0, 0, 40);
        x.set(1, 0, 40);
        x.set(2, 0, 40);
        x.pass(12);
        for (int stamp = 1; stamp <= 6; stamp++) {
            x.send(0, stamp, stamp * stamp, stamp == 5 ? 1 : stamp == 3 ? 8 : 0, 1);
        }
        x.send(1, 2, 70, 1, 1);
        x.send(1, 4, 50, 2, 1);
        x.send(1, 6, 60, 4, 1);
        x.pass(1);
        // Hub 2 releases (1 + 4) / 2, (9 + 16) / 2 and 36; hub 1 their median, and that of 50 and 60.
        Check.due("heldBy(2, 0, 0)", x.heldBy(2, 0, 0), 36);
        Check.due("heldBy(2, 0, 1)", x.heldBy(2, 0, 1), 64 + 32);
        expect(x, 0, 0, 12, 64 + 32 + 8);
        expect(x, 0, 1, 50, 64 + 32 + 4 + 2);
        Check.due("outAt(0, 0)", x.outAt(0, 0), 6);
        Check.due("outAt(0, 2)", x.outAt(0, 2), 64 + 32 + 8 + 4 + 2);
        // Between the stamps of the slow hub 1 the root holds its readings.
        x.unit(0, 3);
        x.send(2, 9, 1, 0, 1);
        x.pass(1);
        expect(x, 0, 0, 12, 128 + 64 + 32 + 8);
        expect(x, 0, 2, 1, 0);
        Check.due("outAt(0, 0)", x.outAt(0, 0), 9);
    }
}
