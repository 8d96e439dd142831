import java.util.ArrayList;
import java.util.List;

/** "A call that returns an error changes nothing", and each change is taken back by undo, but for the text. */
public final class StatesTest {
    public static void main(String[] args) {
        errorsChangeNothing();
        undoTakesBackAll();
        playOfNothingChangesNothing();
        numbersAreUsedAgain();
        Check.end();
    }

    /** Three hubs below each other and one beside, all with slots, frames on their way, late and double ones. */
    static Probe busy() {
        Probe x = new Probe();
        x.set(0, 4, 4);
        x.hub(0, 2);
        x.hub(1, 4);
        x.hub(0, 8);
        int[] hubs = {0, 1, 2, 2, 3, 1};
        int[] periods = {4, 1, 2, 8, 4, 2};
        for (int unit = 0; unit < hubs.length; unit++) {
            x.unit(hubs[unit], periods[unit]);
        }
        for (int hub = 0; hub < 4; hub++) {
            x.set(hub, 0, 6 + hub);
            x.set(hub, 1, hub % 2);
            x.set(hub, 2, hub % 3);
            x.set(hub, 3, hub);
        }
        x.takeOff(5);
        x.pass(20);
        int[] stamps = {4, 8, 4, 8, 12, 16};
        for (int i = 0; i < stamps.length; i++) {
            for (int unit = 0; unit < 5; unit++) {
                x.send(unit, stamps[i] / periods[unit] * periods[unit], 100 * i + unit, (i + unit) % 16, 1 + i);
            }
            x.pass(2);
        }
        for (int unit = 0; unit < 5; unit++) {
            x.send(unit, 24, unit, unit, 7 + unit);
        }
        return x;
    }

    private static void errorsChangeNothing() {
        Probe x = busy();
        List<String> facts = Facts.of(x);
        int states = x.count(9);
        int[] errors = {x.hub(0, 3), x.hub(9, 1), x.unit(0, 3), x.unit(0, 21), x.takeOff(5), x.takeOff(10), x.set(1, 4, 4),
            x.set(1, 0, 41), x.send(5, 0, 0, 0, 1), x.send(0, 5, 0, 0, 1), x.send(0, 0, 0, 16, 1), x.pass(0), x.pass(101),
            x.type(31)};
        for (int i = 0; i < errors.length; i++) {
            Check.holds("the call " + i + " returns an error", errors[i] <= Check.INVALID + 3 && errors[i] < -1000000);
        }
        Check.text(x, "m0,0,5;p9;x1;p0;");
        Check.due("play()", x.play(), Check.IMPOSSIBLE);
        Check.due("fault(0)", x.fault(0), 13);
        Check.due("count(9)", x.count(9), states);
        Facts.same("after errors", Facts.of(x), facts);
    }

    private static int change(Probe x, int kind) {
        switch (kind) {
            case 0:
                return x.hub(1, 1);
            case 1:
                return x.unit(2, 1);
            case 2:
                return x.takeOff(1);
            case 3:
                return x.set(2, 0, 0);
            case 4:
                return x.send(2, 26, 5, 2, 1);
            case 5:
                return x.pass(30);
            default:
                Check.text(x, "m0,0,5;p9;x4;p20;");
                return x.play();
        }
    }

    private static void undoTakesBackAll() {
        Probe x = busy();
        List<List<String>> before = new ArrayList<>();
        for (int kind = 0; kind < 7; kind++) {
            before.add(Facts.of(x));
            Check.holds("the change " + kind, change(x, kind) >= 0);
            Check.holds("the change " + kind + " can be seen", !Facts.of(x).equals(before.get(kind)));
            if (kind >= 3) {
                // Four back, and done again.
                for (int back = kind; back > kind - 4; back--) {
                    Check.due("undo()", x.undo(), 3 - (kind - back));
                    Facts.same("undo of " + back, Facts.of(x), before.get(back));
                }
                Check.due("undo()", x.undo(), Check.IMPOSSIBLE);
                for (int again = kind - 3; again <= kind; again++) {
                    Facts.same("before " + again, Facts.of(x), before.get(again));
                    change(x, again);
                }
            }
        }
    }

    private static void playOfNothingChangesNothing() {
        Probe x = busy();
        for (int i = 0; i < 12; i++) {
            List<String> facts = Facts.of(x);
            Check.due("play()", x.play(), 0);
            Facts.same("after play", Facts.of(x), facts);
            x.pass(1);
        }
    }

    /** A hub and a unit have nothing of those that bore their numbers before undo, however often that happens. */
    static void numbersAreUsedAgain() {
        for (int kind = 0; kind < 4; kind++) {
            for (int passes = 0; passes <= 5; passes++) {
                for (int undone = 0; undone <= Math.min(passes, 4); undone++) {
                    Probe x = new Probe();
                    hubAndUnitComeAndGo(x, kind);
                    for (int i = 0; i < passes; i++) {
                        x.pass(1);
                    }
                    for (int i = 0; i < undone; i++) {
                        x.undo();
                    }
                    hubAndUnitComeAndGo(x, 0);
                    hubAndUnitComeAndGo(x, 3);
                }
            }
        }
    }

    private static void hubAndUnitComeAndGo(Probe x, int kind) {
        int time = x.count(2);
        Check.due("hub(0, 2)", x.hub(0, 2), 1);
        Check.due("unit(1, 1)", x.unit(1, 1), 0);
        for (int what = 0; what <= 14; what++) {
            int due = what == 4 ? 2 : what >= 6 && what <= 8 ? 1 : what == 13 ? Check.ABSENT : 0;
            Check.due("hubOf(1, " + what + ")", x.hubOf(1, what), due);
        }
        int[] unit = {1, 1, 0, 0, 0, 0, 2};
        for (int what = 0; what < unit.length; what++) {
            Check.due("unitOf(0, " + what + ")", x.unitOf(0, what), unit[what]);
        }
        Check.due("heldBy(1, 0, 0)", x.heldBy(1, 0, 0), Check.ABSENT);
        x.set(1, kind, kind == 0 ? 40 : 1);
        Check.text(x, kind % 2 == 0 ? "p4;m0,3,5;m0,3,6;m0,4,7;p1;m0,1,2;p1;m0,6,6;p1;x0;" : "p2;m0,2,3;p1;m0,3,1;p1;");
        Check.due("play()", x.play(), kind % 2 == 0 ? 10 : 5);
        for (int i = 0; i < 4; i++) {
            x.undo();
        }
        Check.due("count(0)", x.count(0), 1);
        Check.due("count(2)", x.count(2), time);
    }
}
