/** Promise 3: unit. */
public final class P03UnitTest {
    public static void main(String[] args) {
        Probe x = new Probe();
        Check.due("unit(1, 1)", x.unit(1, 1), Check.INVALID);
        Check.due("unit(-1, 1)", x.unit(-1, 1), Check.INVALID);
        Check.due("unit(0, 0)", x.unit(0, 0), Check.INVALID);
        Check.due("unit(0, 21)", x.unit(0, 21), Check.INVALID);
        Check.due("unit(0, 20)", x.unit(0, 20), 0);
        Check.due("unit(0, 1)", x.unit(0, 1), 1);
        Check.due("hub(0, 4)", x.hub(0, 4), 1);
        Check.due("unit(1, 6)", x.unit(1, 6), Check.IMPOSSIBLE);
        Check.due("unit(1, 3)", x.unit(1, 3), Check.IMPOSSIBLE);
        Check.due("unit(1, 2)", x.unit(1, 2), 2);
        Check.due("unit(1, 8)", x.unit(1, 8), 3);
        Check.due("unit(1, 4)", x.unit(1, 4), 4);
        Check.due("unitOf(3, 0)", x.unitOf(3, 0), 1);
        Check.due("unitOf(3, 1)", x.unitOf(3, 1), 8);
        Check.due("takeOff(4)", x.takeOff(4), 4);
        for (int unit = 5; unit < 10; unit++) {
            Check.due("unit(0, 3)", x.unit(0, 3), unit);
        }
        // Ten have been added so far, though one of them was taken off.
        Check.due("count(1)", x.count(1), 9);
        Check.due("unit(2, 1)", x.unit(2, 1), Check.INVALID);
        Check.due("unit(1, 3)", x.unit(1, 3), Check.IMPOSSIBLE);
        Check.due("unit(1, 2)", x.unit(1, 2), Check.LIMIT);
        Check.due("count(1)", x.count(1), 9);
        Check.due("unitOf(10, 0)", x.unitOf(10, 0), Check.INVALID);
        Check.due("undo()", x.undo(), 3);
        Check.due("unit(1, 12)", x.unit(1, 12), 9);
        Check.due("unitOf(9, 1)", x.unitOf(9, 1), 12);
        // A unit that is new with the number of one that undo took back has sent nothing.
        Check.due("undo()", x.undo(), 3);
        Check.due("unit(0, 1)", x.unit(0, 1), 9);
        Check.due("send", x.send(9, 0, 1, 0, 5), 1);
        Check.due("takeOff(9)", x.takeOff(9), 8);
        Check.due("undo()", x.undo(), 3);
        Check.due("undo()", x.undo(), 2);
        Check.due("undo()", x.undo(), 1);
        Check.due("unit(0, 2)", x.unit(0, 2), 9);
        Check.due("unitOf(9, 2)", x.unitOf(9, 2), 0);
        Check.due("unitOf(9, 3)", x.unitOf(9, 3), 0);
        Check.due("unitOf(9, 4)", x.unitOf(9, 4), 0);
        Check.end();
    }
}
