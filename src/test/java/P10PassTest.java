/** Promise 10: pass, and what a tick does. */
public final class P10PassTest {
    public static void main(String[] args) {
        ranges();
        theEndOfTime();
        deeperHubsFirst();
        orderOfComing();
        lateAndDouble();
        rules();
        oneReleaseOpensTheNext();
        Check.end();
    }

    private static void ranges() {
        Probe x = new Probe();
        Check.due("pass(0)", x.pass(0), Check.INVALID);
        Check.due("pass(101)", x.pass(101), Check.INVALID);
        Check.due("pass(-1)", x.pass(-1), Check.INVALID);
        Check.due("pass(2147483647)", x.pass(Integer.MAX_VALUE), Check.INVALID);
        Check.due("count(9)", x.count(9), 0);
        Check.due("pass(1)", x.pass(1), 1);
        Check.due("pass(100)", x.pass(100), 101);
        Check.due("undo()", x.undo(), 1);
        Check.due("count(2)", x.count(2), 1);
    }

    private static void theEndOfTime() {
        Probe x = new Probe();
        x.unit(0, 20);
        for (int i = 1; i < 200; i++) {
            Check.due("pass(100)", x.pass(100), 100 * i);
        }
        Check.due("pass(99)", x.pass(99), 19999);
        Check.due("pass(2)", x.pass(2), Check.LIMIT);
        Check.due("pass(101)", x.pass(101), Check.INVALID);
        Check.due("pass(1)", x.pass(1), 20000);
        Check.due("pass(1)", x.pass(1), Check.LIMIT);
        Check.due("send(0, 20000, 1, 0, 5)", x.send(0, 20000, 1, 0, 5), 1);
        // The future goes on beyond the time 20000.
        Check.due("nextOut()", x.nextOut(), 5);
        Check.due("foresee(4)", x.foresee(4), Check.ABSENT);
        Check.due("foresee(5)", x.foresee(5), 20000);
        Check.text(x, "p1;");
        Check.due("fault(1)", x.fault(1), 3);
    }

    private static void deeperHubsFirst() {
        // A hub with a lower number may be deeper: 1 and 2 are below the root, 3 below 1, 4 below 3.
        Probe x = new Probe();
        x.hub(0, 1);
        x.hub(0, 1);
        x.hub(1, 1);
        x.hub(3, 1);
        x.unit(4, 1);
        x.unit(2, 1);
        x.send(0, 0, 5, 0, 1);
        x.send(1, 0, 6, 0, 1);
        x.pass(1);
        Check.due("outAt(0, 1)", x.outAt(0, 1), 1);
        Check.due("outAt(0, 3)", x.outAt(0, 3), 2);
        Check.due("count(4)", x.count(4), 1);
        Check.due("count(3)", x.count(3), 0);
    }

    private static void orderOfComing() {
        // Of the same time the one that was sent or released earlier comes first; the other is double.
        Probe x = new Probe();
        x.unit(0, 1);
        x.unit(0, 1);
        x.set(0, 0, 9);
        x.send(0, 0, 5, 0, 3);
        x.pass(1);
        x.send(0, 0, 6, 0, 2);
        x.pass(1);
        x.send(0, 0, 7, 0, 1);
        x.send(1, 0, 8, 0, 1);
        x.pass(1);
        Check.due("hubOf(0, 12)", x.hubOf(0, 12), 2);
        Check.due("readingAt(0, 0, 0)", x.readingAt(0, 0, 0), 5);
        // One that is sent later and due earlier comes first.
        x.send(0, 3, 1, 0, 3);
        x.send(0, 3, 2, 0, 2);
        x.pass(3);
        Check.due("slotAt(0, 0, 1)", x.slotAt(0, 0, 1), 5);
        Check.due("slotAt(0, 0, 2)", x.slotAt(0, 0, 2), 1);
        x.pass(10);
        Check.due("readingAt(0, 0, 0)", x.readingAt(0, 0, 0), 2);
        Check.due("outAt(0, 1)", x.outAt(0, 1), 12);
    }

    private static void lateAndDouble() {
        Probe x = new Probe();
        x.set(0, 4, 4);
        x.unit(0, 2);
        x.unit(0, 4);
        x.unit(0, 8);
        x.set(0, 0, 40);
        x.pass(20);
        x.send(0, 6, 1, 0, 1);
        x.send(0, 8, 1, 0, 1);
        x.send(0, 8, 2, 0, 1);
        x.send(0, 6, 2, 0, 1);
        x.send(1, 8, 1, 0, 1);
        x.pass(1);
        Check.due("slotAt(0, 0, 0)", x.slotAt(0, 0, 0), 8);
        Check.due("slotAt(0, 0, 2)", x.slotAt(0, 0, 2), 3);
        Check.due("slotAt(0, 0, 3)", x.slotAt(0, 0, 3), 4);
        Check.due("hubOf(0, 12)", x.hubOf(0, 12), 2);
        Check.due("hubOf(0, 11)", x.hubOf(0, 11), 0);
        x.send(2, 8, 1, 0, 1);
        x.pass(1);
        Check.due("hubOf(0, 13)", x.hubOf(0, 13), 8);
        x.send(0, 8, 1, 0, 1);
        x.send(0, 6, 1, 0, 1);
        x.send(0, 0, 1, 0, 1);
        x.send(1, 8, 1, 0, 1);
        x.send(2, 8, 1, 0, 1);
        x.send(0, 10, 1, 0, 1);
        x.pass(1);
        Check.due("hubOf(0, 11)", x.hubOf(0, 11), 5);
        Check.due("hubOf(0, 12)", x.hubOf(0, 12), 2);
        Check.due("slotAt(0, 0, 0)", x.slotAt(0, 0, 0), 12);
        Check.due("hubOf(0, 9)", x.hubOf(0, 9), 1);
    }

    private static void rules() {
        Probe x = new Probe();
        x.unit(0, 1);
        x.unit(0, 1);
        x.set(0, 0, 6);
        x.pass(3);
        x.send(0, 2, 1, 0, 2);
        x.pass(4);
        Check.due("count(4), by the stamp", x.count(4), 0);
        x.pass(1);
        Check.due("outAt(0, 1), by the stamp", x.outAt(0, 1), 8);
        Check.due("outAt(0, 2)", x.outAt(0, 2), 16);
        x.set(0, 1, 1);
        x.send(0, 5, 1, 0, 2);
        x.send(0, 6, 1, 0, 1);
        x.pass(1);
        x.pass(6);
        // The slot 6 came first, but the slot 5 is the first one.
        Check.due("count(4), by the first frame", x.count(4), 1);
        Check.due("slotAt(0, 1, 5)", x.slotAt(0, 1, 5), 0);
        x.pass(1);
        Check.due("count(4), by the first frame", x.count(4), 3);
        Check.due("outAt(0, 0)", x.outAt(0, 0), 6);
        Check.due("outAt(0, 1)", x.outAt(0, 1), 16);
        Check.due("outAt(1, 0)", x.outAt(1, 0), 5);
    }

    private static void oneReleaseOpensTheNext() {
        Probe x = new Probe();
        x.unit(0, 1);
        x.unit(0, 1);
        x.set(0, 0, 40);
        x.pass(3);
        for (int stamp = 1; stamp <= 3; stamp++) {
            x.send(0, stamp, stamp, 0, 1);
        }
        x.send(1, 3, 1, 0, 1);
        x.send(1, 2, 1, 0, 1);
        x.pass(1);
        Check.due("hubOf(0, 9)", x.hubOf(0, 9), 3);
        Check.due("slotAt(0, 1, 4)", x.slotAt(0, 1, 4), 1);
        Check.due("count(4)", x.count(4), 0);
        x.send(1, 1, 1, 0, 1);
        x.pass(1);
        Check.due("count(4)", x.count(4), 3);
        for (int index = 0; index < 3; index++) {
            Check.due("outAt(" + index + ", 0)", x.outAt(index, 0), 3 - index);
            Check.due("outAt(" + index + ", 1)", x.outAt(index, 1), 5);
        }
    }
}
