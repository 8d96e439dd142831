import java.util.ArrayList;
import java.util.Arrays;
import java.util.List;

/**
 * A PhasorTree that counts its calls, as nothing is promised behind the 512th one. It remembers all calls that
 * may have changed it, so that a new object can be brought where it stands.
 */
final class Probe {
    static final int MOST_CALLS = 512;

    static {
        Watchdog.watch();
    }

    private record Call(String name, int[] arguments) { }

    private final PhasorTree tree = new PhasorTree();
    private final List<Call> changes = new ArrayList<>();
    private int calls = 0;

    /** A new object that has had the same calls, but for those that only ask. */
    Probe again() {
        Probe other = new Probe();
        for (Call change : changes) {
            other.call(change.name, change.arguments);
        }
        return other;
    }

    int callsLeft() {
        return MOST_CALLS - calls;
    }

    int call(String name, int... a) {
        if (callsLeft() <= 0) {
            throw new IllegalStateException("more than 512 calls of one object, at " + name + Arrays.toString(a));
        }
        calls++;
        switch (name) {
            case "hub": return changed(name, a, tree.hub(a[0], a[1]));
            case "unit": return changed(name, a, tree.unit(a[0], a[1]));
            case "takeOff": return changed(name, a, tree.takeOff(a[0]));
            case "set": return changed(name, a, tree.set(a[0], a[1], a[2]));
            case "hubOf": return tree.hubOf(a[0], a[1]);
            case "unitOf": return tree.unitOf(a[0], a[1]);
            case "unitAt": return tree.unitAt(a[0], a[1]);
            case "send": return changed(name, a, tree.send(a[0], a[1], a[2], a[3], a[4]));
            case "pass": return changed(name, a, tree.pass(a[0]));
            case "slotAt": return tree.slotAt(a[0], a[1], a[2]);
            case "outAt": return tree.outAt(a[0], a[1]);
            case "readingAt": return tree.readingAt(a[0], a[1], a[2]);
            case "heldBy": return tree.heldBy(a[0], a[1], a[2]);
            case "nextOut": return tree.nextOut();
            case "foresee": return tree.foresee(a[0]);
            case "count": return tree.count(a[0]);
            case "undo": return changed(name, a, tree.undo());
            case "type": return changed(name, a, tree.type(a[0]));
            case "clearText": return changed(name, a, tree.clearText());
            case "fault": return tree.fault(a[0]);
            case "play": return changed(name, a, tree.play());
            default: throw new IllegalArgumentException(name);
        }
    }

    private int changed(String name, int[] arguments, int answer) {
        changes.add(new Call(name, arguments));
        return answer;
    }

    /** The call must answer what is due. */
    Probe due(int answer, String name, int... a) {
        Check.due(told(name, a), call(name, a), answer);
        return this;
    }

    /** The call must return this error, and no later call may show that it was there. */
    Probe refuses(int error, String name, int... a) {
        changesNothing(name, a);
        return due(error, name, a);
    }

    /** No later call may show that there was this one. */
    void changesNothing(String name, int... a) {
        Probe without = again();
        Probe with = again();
        with.call(name, a);
        // Even if it is one that only asks: a new object has to have had it, too.
        if (with.changes.size() == without.changes.size()) {
            with.changes.add(new Call(name, a));
        }
        Facts.same(told(name, a), Facts.ofAll(with), Facts.ofAll(without));
    }

    /** Lets ticks go by until it is this time. */
    void passTo(int time) {
        for (int left = time - call("count", 2); left > 0; left -= 100) {
            call("pass", Math.min(left, 100));
        }
    }

    private static String told(String name, int... a) {
        String arguments = Arrays.toString(a);
        return name + "(" + arguments.substring(1, arguments.length() - 1) + ")";
    }

    // ---- calls whose answers are not looked at

    int hub(int above, int period) {
        return call("hub", above, period);
    }

    int unit(int hub, int period) {
        return call("unit", hub, period);
    }

    int takeOff(int unit) {
        return call("takeOff", unit);
    }

    int set(int hub, int what, int value) {
        return call("set", hub, what, value);
    }

    int hubOf(int hub, int what) {
        return call("hubOf", hub, what);
    }

    int unitOf(int unit, int what) {
        return call("unitOf", unit, what);
    }

    int unitAt(int hub, int index) {
        return call("unitAt", hub, index);
    }

    int send(int unit, int stamp, int value, int flags, int ticks) {
        return call("send", unit, stamp, value, flags, ticks);
    }

    int pass(int ticks) {
        return call("pass", ticks);
    }

    int slotAt(int hub, int index, int what) {
        return call("slotAt", hub, index, what);
    }

    int outAt(int index, int what) {
        return call("outAt", index, what);
    }

    int readingAt(int index, int unit, int what) {
        return call("readingAt", index, unit, what);
    }

    int heldBy(int hub, int unit, int what) {
        return call("heldBy", hub, unit, what);
    }

    int nextOut() {
        return call("nextOut");
    }

    int foresee(int ticks) {
        return call("foresee", ticks);
    }

    int count(int what) {
        return call("count", what);
    }

    int undo() {
        return call("undo");
    }

    int type(int character) {
        return call("type", character);
    }

    int clearText() {
        return call("clearText");
    }

    int fault(int what) {
        return call("fault", what);
    }

    int play() {
        return call("play");
    }
}
