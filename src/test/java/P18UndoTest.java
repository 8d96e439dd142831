/** Promise 18: undo, and the history of 4 states. */
public final class P18UndoTest {
    public static void main(String[] args) {
        allChanges();
        atMostFour();
        errorsAndAskingRecordNothing();
        framesComeBack();
        Check.end();
    }

    private static void allChanges() {
        Probe x = new Probe();
        Check.due("undo()", x.undo(), Check.IMPOSSIBLE);
        x.unit(0, 1);
        Check.due("count(9)", x.count(9), 1);
        x.undo();
        x.hub(0, 1);
        Check.due("count(9)", x.count(9), 1);
        x.unit(1, 1);
        x.send(0, 0, 1, 0, 1);
        Check.due("count(9)", x.count(9), 3);
        x.takeOff(0);
        Check.due("count(9)", x.count(9), 4);
        Check.due("undo()", x.undo(), 3);
        Check.due("unitOf(0, 2)", x.unitOf(0, 2), 0);
        Check.due("undo()", x.undo(), 2);
        Check.due("count(3)", x.count(3), 0);
        x.set(0, 0, 3);
        Check.due("count(9)", x.count(9), 3);
        x.pass(1);
        Check.due("count(9)", x.count(9), 4);
        Check.due("undo()", x.undo(), 3);
        Check.due("undo()", x.undo(), 2);
        Check.due("hubOf(0, 0)", x.hubOf(0, 0), 0);
        x.play();
        Check.due("count(9)", x.count(9), 3);
        Check.due("undo()", x.undo(), 2);
        Check.due("undo()", x.undo(), 1);
        Check.due("undo()", x.undo(), 0);
        Check.due("undo()", x.undo(), Check.IMPOSSIBLE);
        Check.due("count(0)", x.count(0), 1);
        Check.due("count(1)", x.count(1), 0);
    }

    private static void atMostFour() {
        Probe x = new Probe();
        for (int i = 1; i <= 9; i++) {
            x.pass(i);
            Check.due("count(9)", x.count(9), Math.min(i, 4));
        }
        int[] times = {36, 28, 21, 15};
        for (int i = 0; i < 4; i++) {
            Check.due("undo()", x.undo(), 3 - i);
            Check.due("count(2)", x.count(2), times[i]);
        }
        Check.due("undo()", x.undo(), Check.IMPOSSIBLE);
        // After undo a change goes on from there; nothing is done again.
        x.pass(1);
        x.pass(1);
        Check.due("undo()", x.undo(), 1);
        x.pass(50);
        Check.due("undo()", x.undo(), 1);
        Check.due("count(2)", x.count(2), 16);
        Check.due("undo()", x.undo(), 0);
        Check.due("count(2)", x.count(2), 15);
    }

    private static void errorsAndAskingRecordNothing() {
        Probe x = new Probe();
        x.unit(0, 2);
        x.pass(1);
        x.hub(0, 0);
        x.hub(1, 1);
        x.unit(0, 21);
        x.takeOff(1);
        x.set(0, 4, 21);
        x.send(0, 1, 0, 0, 1);
        x.pass(101);
        x.nextOut();
        x.foresee(100);
        Check.text(x, "q;");
        x.fault(0);
        Check.due("play()", x.play(), Check.IMPOSSIBLE);
        Check.due("count(9)", x.count(9), 2);
        Check.due("undo()", x.undo(), 1);
        // The text is no part of it.
        Check.due("count(10)", x.count(10), 2);
        x.clearText();
        Check.due("undo()", x.undo(), 0);
        Check.due("count(10)", x.count(10), 0);
    }

    private static void framesComeBack() {
        Probe x = new Probe();
        x.hub(0, 1);
        x.unit(1, 1);
        x.unit(1, 1);
        x.set(1, 0, 9);
        x.set(1, 3, 2);
        x.send(0, 0, 5, 2, 1);
        x.send(1, 0, 6, 4, 3);
        x.pass(1);
        x.pass(2);
        x.pass(2);
        Check.due("outAt(0, 2)", x.outAt(0, 2), 6);
        Check.due("undo()", x.undo(), 3);
        Check.due("count(4)", x.count(4), 0);
        Check.due("hubOf(1, 14)", x.hubOf(1, 14), 1);
        Check.due("undo()", x.undo(), 2);
        Check.due("slotAt(1, 0, 2)", x.slotAt(1, 0, 2), 1);
        Check.due("slotAt(1, 0, 1)", x.slotAt(1, 0, 1), 1);
        Check.due("hubOf(1, 10)", x.hubOf(1, 10), 0);
        Check.due("hubOf(1, 13)", x.hubOf(1, 13), Check.ABSENT);
        Check.due("heldBy(1, 0, 0)", x.heldBy(1, 0, 0), Check.ABSENT);
        Check.due("undo()", x.undo(), 1);
        Check.due("hubOf(1, 9)", x.hubOf(1, 9), 0);
        Check.due("count(3)", x.count(3), 2);
        Check.due("unitOf(1, 3)", x.unitOf(1, 3), 1);
        Check.due("undo()", x.undo(), 0);
        Check.due("unitOf(1, 3)", x.unitOf(1, 3), 0);
        Check.due("count(3)", x.count(3), 1);
        x.pass(20);
        Check.due("readingAt(0, 0, 0)", x.readingAt(0, 0, 0), 5);
        Check.due("outAt(0, 1)", x.outAt(0, 1), 11);
    }
}
