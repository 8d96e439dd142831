import java.util.ArrayList;
import java.util.List;

/** All that an object tells about its present state, but for its history and its text. */
final class Facts {
    private final PhasorTree x;
    private final List<String> rows = new ArrayList<>();

    private Facts(PhasorTree x) {
        this.x = x;
    }

    static List<String> of(PhasorTree x) {
        Facts facts = new Facts(x);
        facts.aboutHubs();
        facts.aboutUnits();
        facts.aboutOutputs();
        for (int what = 0; what <= 8; what++) {
            facts.add("count", x.count(what), what);
        }
        facts.add("nextOut", x.nextOut());
        for (int ticks = 1; ticks <= 200; ticks += 7) {
            facts.add("foresee", x.foresee(ticks), ticks);
        }
        return facts.rows;
    }

    static void same(String when, List<String> got, List<String> due) {
        Check.due(when + ": facts", got.size(), due.size());
        for (int i = 0; i < Math.min(got.size(), due.size()); i++) {
            Check.holds(when + ": " + got.get(i) + ", due is " + due.get(i), got.get(i).equals(due.get(i)));
        }
    }

    private void add(String call, int answer, int... arguments) {
        rows.add(call + java.util.Arrays.toString(arguments) + " = " + answer);
    }

    private void aboutHubs() {
        for (int hub = 0; hub < x.count(0); hub++) {
            for (int what = 0; what <= 14; what++) {
                add("hubOf", x.hubOf(hub, what), hub, what);
            }
            for (int unit = 0; unit < 10; unit++) {
                add("unitAt", x.unitAt(hub, unit), hub, unit);
                add("heldBy", x.heldBy(hub, unit, 0), hub, unit, 0);
                add("heldBy", x.heldBy(hub, unit, 1), hub, unit, 1);
            }
            for (int index = 0; index < x.hubOf(hub, 9); index++) {
                for (int what = 0; what <= 5; what++) {
                    add("slotAt", x.slotAt(hub, index, what), hub, index, what);
                }
            }
        }
    }

    private void aboutUnits() {
        for (int unit = 0; unit < 10; unit++) {
            for (int what = 0; what <= 6; what++) {
                add("unitOf", x.unitOf(unit, what), unit, what);
            }
        }
    }

    private void aboutOutputs() {
        for (int index = 0; index < x.count(5); index++) {
            for (int what = 0; what <= 4; what++) {
                add("outAt", x.outAt(index, what), index, what);
            }
            for (int unit = 0; unit < 10; unit++) {
                add("readingAt", x.readingAt(index, unit, 0), index, unit, 0);
                add("readingAt", x.readingAt(index, unit, 1), index, unit, 1);
            }
        }
    }
}
