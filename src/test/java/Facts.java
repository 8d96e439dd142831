import java.util.ArrayList;
import java.util.Arrays;
import java.util.List;

/** What an object tells about itself; it is asked on as many objects in the same state as that takes. */
final class Facts {
    private static final int[] FORETOLD_TICKS = {1, 2, 3, 7, 20, 60, 140, 200};

    private final Probe start;
    private Probe asked;
    private final List<String> rows = new ArrayList<>();

    private Facts(Probe start) {
        this.start = start;
        this.asked = start.again();
    }

    /** All about the present state, but for the history and the text. */
    static List<String> of(Probe x) {
        Facts facts = new Facts(x);
        facts.aboutHubs();
        facts.aboutUnits();
        facts.aboutOutputs();
        for (int what = 0; what <= 8; what++) {
            facts.ask("count", what);
        }
        facts.ask("nextOut");
        for (int ticks : FORETOLD_TICKS) {
            facts.ask("foresee", ticks);
        }
        return facts.rows;
    }

    /** Also about the text, and about all states that undo, pass and play lead to from here. */
    static List<String> ofAll(Probe x) {
        List<String> rows = new ArrayList<>(of(x));
        Facts facts = new Facts(x);
        facts.ask("count", 9);
        facts.ask("count", 10);
        facts.ask("fault", 0);
        facts.ask("fault", 1);
        rows.addAll(facts.rows);
        Probe back = x.again();
        while (back.call("undo") >= 0) {
            rows.addAll(of(back));
        }
        rows.addAll(after(x, "pass", 1));
        rows.addAll(after(x, "pass", 50));
        rows.addAll(after(x, "play"));
        return rows;
    }

    private static List<String> after(Probe x, String name, int... arguments) {
        Probe later = x.again();
        List<String> rows = new ArrayList<>();
        rows.add(name + " = " + later.call(name, arguments));
        rows.addAll(of(later));
        return rows;
    }

    static void same(String when, List<String> got, List<String> due) {
        Check.due(when + ": facts", got.size(), due.size());
        for (int i = 0; i < Math.min(got.size(), due.size()); i++) {
            if (!got.get(i).equals(due.get(i))) {
                Check.holds(when + ": " + got.get(i) + ", due is " + due.get(i), false);
                return;
            }
        }
    }

    private int ask(String name, int... arguments) {
        if (asked.callsLeft() == 0) {
            asked = start.again();
        }
        int answer = asked.call(name, arguments);
        rows.add(name + Arrays.toString(arguments) + " = " + answer);
        return answer;
    }

    private void aboutHubs() {
        for (int hub = 0; ask("hubOf", hub, 0) >= 0; hub++) {
            for (int what = 1; what <= 14; what++) {
                ask("hubOf", hub, what);
            }
            for (int index = 0; ask("unitAt", hub, index) >= 0; index++) {
                // Up to the end of the row.
            }
            for (int unit = 0; ask("heldBy", hub, unit, 0) != Check.INVALID; unit++) {
                ask("heldBy", hub, unit, 1);
            }
            for (int index = 0; ask("slotAt", hub, index, 0) >= 0; index++) {
                for (int what = 1; what <= 5; what++) {
                    ask("slotAt", hub, index, what);
                }
            }
        }
    }

    private void aboutUnits() {
        for (int unit = 0; ask("unitOf", unit, 0) >= 0; unit++) {
            for (int what = 1; what <= 6; what++) {
                ask("unitOf", unit, what);
            }
        }
    }

    private void aboutOutputs() {
        for (int index = 0; ask("outAt", index, 0) >= 0; index++) {
            for (int what = 1; what <= 4; what++) {
                ask("outAt", index, what);
            }
            for (int unit = 0; ask("readingAt", index, unit, 0) != Check.INVALID; unit++) {
                ask("readingAt", index, unit, 1);
            }
        }
    }
}
