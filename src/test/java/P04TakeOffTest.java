/** Promise 4: takeOff. */
public final class P04TakeOffTest {
    public static void main(String[] args) {
        takesOff();
        completesASlot();
        framesAreLate();
        readingsOnTheirWayAreLeftOut();
        Check.end();
    }

    private static void takesOff() {
        Probe x = new Probe();
        Check.due("takeOff(0)", x.takeOff(0), Check.INVALID);
        x.unit(0, 1);
        x.unit(0, 2);
        x.unit(0, 3);
        Check.due("takeOff(-1)", x.takeOff(-1), Check.INVALID);
        Check.due("takeOff(3)", x.takeOff(3), Check.INVALID);
        Check.due("takeOff(1)", x.takeOff(1), 2);
        Check.due("takeOff(1)", x.takeOff(1), Check.IMPOSSIBLE);
        Check.due("count(9)", x.count(9), 4);
        Check.due("takeOff(0)", x.takeOff(0), 1);
        Check.due("takeOff(2)", x.takeOff(2), 0);
        Check.due("unitOf(2, 2)", x.unitOf(2, 2), 1);
        Check.due("unitOf(1, 1)", x.unitOf(1, 1), 2);
        Check.due("hubOf(0, 7)", x.hubOf(0, 7), 0);
        Check.due("hubOf(0, 8)", x.hubOf(0, 8), 0);
        Check.due("unit(0, 1)", x.unit(0, 1), 3);
        Check.due("undo()", x.undo(), 3);
        Check.due("undo()", x.undo(), 2);
        Check.due("unitOf(2, 2)", x.unitOf(2, 2), 0);
        Check.due("takeOff(2)", x.takeOff(2), 0);
    }

    private static void completesASlot() {
        Probe x = new Probe();
        x.unit(0, 1);
        x.unit(0, 1);
        x.set(0, 0, 40);
        x.send(0, 0, 5, 0, 1);
        x.pass(1);
        Check.due("slotAt(0, 0, 4)", x.slotAt(0, 0, 4), 0);
        x.takeOff(1);
        Check.due("slotAt(0, 0, 4)", x.slotAt(0, 0, 4), 1);
        Check.due("count(4)", x.count(4), 0);
        Check.due("nextOut()", x.nextOut(), 1);
        x.pass(1);
        Check.due("outAt(0, 1)", x.outAt(0, 1), 2);
        Check.due("outAt(0, 2)", x.outAt(0, 2), 0);
        // A slot with the frame of one that was taken off, which alone it had.
        x.unit(0, 1);
        x.send(2, 1, 6, 0, 1);
        x.pass(1);
        x.takeOff(2);
        Check.due("slotAt(0, 0, 2)", x.slotAt(0, 0, 2), 1);
        Check.due("slotAt(0, 0, 3)", x.slotAt(0, 0, 3), 1);
        Check.due("slotAt(0, 0, 4)", x.slotAt(0, 0, 4), 0);
        x.takeOff(0);
        Check.due("slotAt(0, 0, 3)", x.slotAt(0, 0, 3), 0);
        Check.due("slotAt(0, 0, 4)", x.slotAt(0, 0, 4), 1);
        x.pass(1);
        Check.due("outAt(0, 0)", x.outAt(0, 0), 1);
        Check.due("outAt(0, 2)", x.outAt(0, 2), 0);
        Check.due("outAt(0, 3)", x.outAt(0, 3), 0);
        Check.due("outAt(0, 4)", x.outAt(0, 4), 0);
        Check.due("heldBy(0, 0, 0)", x.heldBy(0, 0, 0), 5);
        Check.due("heldBy(0, 2, 0)", x.heldBy(0, 2, 0), Check.ABSENT);
    }

    private static void framesAreLate() {
        Probe x = new Probe();
        x.unit(0, 1);
        x.unit(0, 1);
        x.set(0, 0, 40);
        x.send(0, 0, 5, 0, 3);
        x.send(1, 0, 5, 0, 1);
        x.takeOff(0);
        Check.due("unitOf(0, 4)", x.unitOf(0, 4), 1);
        Check.due("count(3)", x.count(3), 2);
        x.pass(3);
        Check.due("hubOf(0, 11)", x.hubOf(0, 11), 1);
        Check.due("hubOf(0, 9)", x.hubOf(0, 9), 0);
        Check.due("unitOf(0, 4)", x.unitOf(0, 4), 0);
        // Even if the slot has the same frame of it: it is late, not double.
        x.unit(0, 1);
        x.send(2, 3, 5, 0, 1);
        x.send(2, 3, 6, 0, 2);
        x.pass(1);
        x.takeOff(2);
        x.set(0, 0, 40);
        x.send(1, 2, 1, 0, 1);
        Check.due("pass(1)", x.pass(1), 5);
        Check.due("hubOf(0, 11)", x.hubOf(0, 11), 2);
        Check.due("hubOf(0, 12)", x.hubOf(0, 12), 0);
    }

    private static void readingsOnTheirWayAreLeftOut() {
        Probe x = new Probe();
        x.hub(0, 1);
        x.unit(1, 1);
        x.unit(1, 1);
        x.set(1, 3, 5);
        x.send(0, 0, 7, 4, 1);
        x.send(1, 0, 8, 8, 1);
        x.pass(1);
        Check.due("hubOf(1, 14)", x.hubOf(1, 14), 1);
        x.takeOff(0);
        x.pass(5);
        Check.due("outAt(0, 1)", x.outAt(0, 1), 6);
        Check.due("outAt(0, 2)", x.outAt(0, 2), 8);
        Check.due("outAt(0, 3)", x.outAt(0, 3), 1);
        Check.due("outAt(0, 4)", x.outAt(0, 4), 0);
        Check.due("readingAt(0, 0, 0)", x.readingAt(0, 0, 0), Check.ABSENT);
        Check.due("heldBy(0, 0, 0)", x.heldBy(0, 0, 0), Check.ABSENT);
        Check.due("heldBy(1, 0, 0)", x.heldBy(1, 0, 0), 7);
    }
}
