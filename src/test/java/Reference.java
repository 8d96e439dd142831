import java.util.ArrayDeque;
import java.util.ArrayList;
import java.util.Collections;
import java.util.Deque;
import java.util.List;
import java.util.Map;
import java.util.TreeMap;
import java.util.regex.Matcher;
import java.util.regex.Pattern;

/**
 * The document once more, written with the Java library, with new objects for everything and no care for
 * speed or room: what RandomRuns compares PhasorTree with.
 */
final class Reference {
    static final int INVALID = -1000001;
    static final int IMPOSSIBLE = -1000002;
    static final int LIMIT = -1000003;
    static final int ABSENT = -1000004;

    record Reading(int value, int flags) { }

    record Frame(boolean ofUnit, int child, int stamp, TreeMap<Integer, Reading> readings) {
        boolean sameSource(Frame other) {
            return ofUnit == other.ofUnit && child == other.child && stamp == other.stamp;
        }
    }

    record Travel(Frame frame, int due) { }

    record Output(int stamp, int time, int missing, TreeMap<Integer, Reading> readings) { }

    static final class Slot {
        int firstCame;
        final List<Frame> frames = new ArrayList<>();
    }

    static final class Hub {
        int above = -1;
        int[] settings = new int[5];
        int released;
        int late;
        int doubles;
        Integer latest;
        TreeMap<Integer, Slot> slots = new TreeMap<>();
        TreeMap<Integer, Reading> memory = new TreeMap<>();
    }

    static final class Unit {
        int hub;
        int period;
        boolean off;
        int sent;
    }

    static final class State {
        List<Hub> hubs = new ArrayList<>();
        List<Unit> units = new ArrayList<>();
        List<Travel> travels = new ArrayList<>();
        List<Output> outputs = new ArrayList<>();
        int time;

        State copy() {
            State to = new State();
            to.time = time;
            to.travels.addAll(travels);
            to.outputs.addAll(outputs);
            for (Unit u : units) {
                Unit n = new Unit();
                n.hub = u.hub;
                n.period = u.period;
                n.off = u.off;
                n.sent = u.sent;
                to.units.add(n);
            }
            for (Hub h : hubs) {
                Hub n = new Hub();
                n.above = h.above;
                n.settings = h.settings.clone();
                n.released = h.released;
                n.late = h.late;
                n.doubles = h.doubles;
                n.latest = h.latest;
                n.memory.putAll(h.memory);
                for (Map.Entry<Integer, Slot> e : h.slots.entrySet()) {
                    Slot s = new Slot();
                    s.firstCame = e.getValue().firstCame;
                    s.frames.addAll(e.getValue().frames);
                    n.slots.put(e.getKey(), s);
                }
                to.hubs.add(n);
            }
            return to;
        }

        boolean noHub(int h) {
            return h < 0 || h >= hubs.size();
        }

        boolean noUnit(int u) {
            return u < 0 || u >= units.size();
        }

        int periodOfHub(int h) {
            return hubs.get(h).settings[4];
        }

        int depth(int h) {
            return hubs.get(h).above < 0 ? 0 : 1 + depth(hubs.get(h).above);
        }

        List<int[]> children(int h) {
            List<int[]> list = new ArrayList<>();
            for (int u = 0; u < units.size(); u++) {
                if (units.get(u).hub == h && !units.get(u).off) {
                    list.add(new int[] {1, u, units.get(u).period});
                }
            }
            for (int c = 0; c < hubs.size(); c++) {
                if (hubs.get(c).above == h) {
                    list.add(new int[] {0, c, periodOfHub(c)});
                }
            }
            return list;
        }

        List<Integer> unitsOf(int h) {
            List<Integer> list = new ArrayList<>();
            for (int[] child : children(h)) {
                if (child[0] == 1) {
                    list.add(child[1]);
                } else {
                    list.addAll(unitsOf(child[1]));
                }
            }
            Collections.sort(list);
            return list;
        }

        int[] childFor(int h, int u) {
            for (int[] child : children(h)) {
                if (child[0] == 1 ? child[1] == u : unitsOf(child[1]).contains(u)) {
                    return child;
                }
            }
            return null;
        }

        int expected(int h, int[] child, int s) {
            int period = periodOfHub(h);
            if (child[2] <= period) {
                return period / child[2];
            }
            return s % child[2] == 0 ? 1 : 0;
        }

        boolean complete(int h, int s) {
            for (int[] child : children(h)) {
                int has = 0;
                for (Frame f : hubs.get(h).slots.get(s).frames) {
                    if (f.ofUnit == (child[0] == 1) && f.child == child[1]) {
                        has++;
                    }
                }
                if (has < expected(h, child, s)) {
                    return false;
                }
            }
            return true;
        }

        int waitLeft(int h, int s) {
            Hub hub = hubs.get(h);
            int from = hub.settings[1] == 0 ? s : hub.slots.get(s).firstCame;
            int left = from + hub.settings[0] - time;
            return left < 0 ? 0 : left;
        }

        void come(Frame f) {
            int h = f.ofUnit ? units.get(f.child).hub : hubs.get(f.child).above;
            Hub hub = hubs.get(h);
            if (f.ofUnit && units.get(f.child).off) {
                hub.late++;
                return;
            }
            int childPeriod = f.ofUnit ? units.get(f.child).period : periodOfHub(f.child);
            int s = f.stamp;
            if (childPeriod <= periodOfHub(h)) {
                while (s % periodOfHub(h) != 0) {
                    s++;
                }
            }
            if (hub.latest != null && s <= hub.latest) {
                hub.late++;
                return;
            }
            Slot slot = hub.slots.get(s);
            if (slot != null) {
                for (Frame other : slot.frames) {
                    if (other.sameSource(f)) {
                        hub.doubles++;
                        return;
                    }
                }
            } else {
                slot = new Slot();
                slot.firstCame = time;
                hub.slots.put(s, slot);
            }
            slot.frames.add(f);
        }

        Reading reading(int h, int u, int s) {
            Hub hub = hubs.get(h);
            int[] child = childFor(h, u);
            int period = periodOfHub(h);
            List<Reading> all = new ArrayList<>();
            Reading exact = null;
            for (Frame f : hub.slots.get(s).frames) {
                if (f.ofUnit == (child[0] == 1) && f.child == child[1] && f.readings.containsKey(u)) {
                    all.add(f.readings.get(u));
                    if (f.stamp == s) {
                        exact = f.readings.get(u);
                    }
                }
            }
            if (child[2] > period) {
                if (s % child[2] == 0) {
                    return exact;
                }
                Reading old = hub.memory.get(u);
                return old == null ? null : new Reading(old.value, old.flags | 128);
            }
            if (hub.settings[2] == 0 || child[2] == period) {
                return exact;
            }
            List<Reading> valid = new ArrayList<>();
            for (Reading r : all) {
                if (r.flags % 2 == 0) {
                    valid.add(r);
                }
            }
            List<Reading> taken = valid.isEmpty() ? all : valid;
            if (taken.isEmpty()) {
                return null;
            }
            List<Integer> values = new ArrayList<>();
            int sum = 0;
            int flags = 64;
            for (Reading r : taken) {
                values.add(r.value);
                sum += r.value;
                flags |= r.flags;
            }
            if (taken.size() < expected(h, child, s)) {
                flags |= 32;
            }
            Collections.sort(values);
            int n = values.size();
            int median = n % 2 == 1 ? values.get(n / 2) : values.get(n / 2 - 1);
            return new Reading(hub.settings[2] == 1 ? sum / n : median, flags);
        }

        void release(int h, int s) {
            Hub hub = hubs.get(h);
            TreeMap<Integer, Reading> readings = new TreeMap<>();
            int missing = 0;
            for (int u : unitsOf(h)) {
                Reading r = reading(h, u, s);
                if (r == null) {
                    missing++;
                } else {
                    readings.put(u, r);
                }
            }
            hub.memory.putAll(readings);
            hub.slots.remove(s);
            hub.released++;
            hub.latest = s;
            if (h == 0) {
                outputs.add(new Output(s, time, missing, readings));
                return;
            }
            Frame f = new Frame(false, h, s, readings);
            if (hub.settings[3] == 0) {
                come(f);
            } else {
                travels.add(new Travel(f, time + hub.settings[3]));
            }
        }

        void ask(int h) {
            TreeMap<Integer, Slot> slots = hubs.get(h).slots;
            while (!slots.isEmpty()) {
                int s = slots.firstKey();
                if (!complete(h, s) && waitLeft(h, s) > 0) {
                    return;
                }
                release(h, s);
            }
        }

        void tick() {
            time++;
            List<Travel> due = new ArrayList<>();
            for (Travel t : travels) {
                if (t.due <= time) {
                    due.add(t);
                }
            }
            travels.removeAll(due);
            due.sort((a, b) -> Integer.compare(a.due, b.due));
            for (Travel t : due) {
                come(t.frame);
            }
            List<Integer> order = new ArrayList<>();
            for (int h = 0; h < hubs.size(); h++) {
                order.add(h);
            }
            order.sort((a, b) -> Integer.compare(depth(b), depth(a)));
            for (int h : order) {
                ask(h);
            }
        }

        int sendError(int unit, int stamp, int value, int flags, int ticks) {
            if (noUnit(unit) || stamp < 0 || stamp > 20000 || Math.abs((long) value) > 100000
                    || flags < 0 || flags > 15 || ticks < 1 || ticks > 60) {
                return INVALID;
            }
            if (units.get(unit).off || stamp % units.get(unit).period != 0 || stamp > time) {
                return IMPOSSIBLE;
            }
            return travels.size() >= 40 ? LIMIT : 0;
        }

        void doSend(int unit, int stamp, int value, int flags, int ticks) {
            TreeMap<Integer, Reading> readings = new TreeMap<>();
            readings.put(unit, new Reading(value, flags));
            travels.add(new Travel(new Frame(true, unit, stamp, readings), time + ticks));
            units.get(unit).sent++;
        }

        int passError(int ticks) {
            if (ticks < 1 || ticks > 100) {
                return INVALID;
            }
            return time + ticks > 20000 ? LIMIT : 0;
        }

        void doPass(int ticks) {
            for (int i = 0; i < ticks; i++) {
                tick();
            }
        }

        int takeOffError(int unit) {
            if (noUnit(unit)) {
                return INVALID;
            }
            return units.get(unit).off ? IMPOSSIBLE : 0;
        }
    }

    private State now = new State();
    private final Deque<State> history = new ArrayDeque<>();
    private String text = "";

    Reference() {
        Hub root = new Hub();
        root.settings[4] = 1;
        now.hubs.add(root);
    }

    private void remember() {
        history.addLast(now.copy());
        if (history.size() > 4) {
            history.removeFirst();
        }
    }

    private static boolean fit(int a, int b) {
        return a % b == 0 || b % a == 0;
    }

    int hub(int above, int period) {
        if (now.noHub(above) || period < 1 || period > 20) {
            return INVALID;
        }
        if (!fit(period, now.periodOfHub(above))) {
            return IMPOSSIBLE;
        }
        if (now.hubs.size() == 5) {
            return LIMIT;
        }
        remember();
        Hub h = new Hub();
        h.above = above;
        h.settings[4] = period;
        now.hubs.add(h);
        return now.hubs.size() - 1;
    }

    int unit(int hub, int period) {
        if (now.noHub(hub) || period < 1 || period > 20) {
            return INVALID;
        }
        if (!fit(period, now.periodOfHub(hub))) {
            return IMPOSSIBLE;
        }
        if (now.units.size() == 10) {
            return LIMIT;
        }
        remember();
        Unit u = new Unit();
        u.hub = hub;
        u.period = period;
        now.units.add(u);
        return now.units.size() - 1;
    }

    int takeOff(int unit) {
        int error = now.takeOffError(unit);
        if (error != 0) {
            return error;
        }
        remember();
        now.units.get(unit).off = true;
        return now.unitsOf(0).size();
    }

    int set(int hub, int what, int value) {
        if (now.noHub(hub) || what < 0 || what > 4) {
            return INVALID;
        }
        int most = what == 0 ? 40 : what == 1 ? 1 : what == 2 ? 2 : 20;
        if (value < (what == 4 ? 1 : 0) || value > most) {
            return INVALID;
        }
        Hub h = now.hubs.get(hub);
        if (what == 4) {
            for (int[] child : now.children(hub)) {
                if (!fit(child[2], value)) {
                    return IMPOSSIBLE;
                }
            }
            if (!h.slots.isEmpty() || h.released > 0) {
                return IMPOSSIBLE;
            }
            if (hub > 0) {
                Hub above = now.hubs.get(h.above);
                if (!fit(above.settings[4], value) || !above.slots.isEmpty() || above.released > 0) {
                    return IMPOSSIBLE;
                }
            }
        }
        remember();
        int was = h.settings[what];
        h.settings[what] = value;
        return was;
    }

    private int travelling(boolean ofUnit, int child) {
        int n = 0;
        for (Travel t : now.travels) {
            if (t.frame.ofUnit == ofUnit && t.frame.child == child) {
                n++;
            }
        }
        return n;
    }

    int hubOf(int hub, int what) {
        if (now.noHub(hub) || what < 0 || what > 14) {
            return INVALID;
        }
        Hub h = now.hubs.get(hub);
        return switch (what) {
            case 5 -> hub == 0 ? ABSENT : h.above;
            case 6 -> now.depth(hub);
            case 7 -> now.children(hub).size();
            case 8 -> now.unitsOf(hub).size();
            case 9 -> h.slots.size();
            case 10 -> h.released;
            case 11 -> h.late;
            case 12 -> h.doubles;
            case 13 -> h.latest == null ? ABSENT : h.latest;
            case 14 -> travelling(false, hub);
            default -> h.settings[what];
        };
    }

    int unitOf(int unit, int what) {
        if (now.noUnit(unit) || what < 0 || what > 6) {
            return INVALID;
        }
        Unit u = now.units.get(unit);
        int delays = 0;
        int hubs = 0;
        for (int h = u.hub; h >= 0; h = now.hubs.get(h).above) {
            hubs++;
            delays += h == 0 ? 0 : now.hubs.get(h).settings[3];
        }
        return switch (what) {
            case 0 -> u.hub;
            case 1 -> u.period;
            case 2 -> u.off ? 1 : 0;
            case 3 -> u.sent;
            case 4 -> travelling(true, unit);
            case 5 -> delays;
            default -> hubs;
        };
    }

    int unitAt(int hub, int index) {
        if (now.noHub(hub) || index < 0) {
            return INVALID;
        }
        List<Integer> list = now.unitsOf(hub);
        return index < list.size() ? list.get(index) : ABSENT;
    }

    int send(int unit, int stamp, int value, int flags, int ticks) {
        int error = now.sendError(unit, stamp, value, flags, ticks);
        if (error != 0) {
            return error;
        }
        remember();
        now.doSend(unit, stamp, value, flags, ticks);
        return now.travels.size();
    }

    int pass(int ticks) {
        int error = now.passError(ticks);
        if (error != 0) {
            return error;
        }
        remember();
        now.doPass(ticks);
        return now.time;
    }

    int slotAt(int hub, int index, int what) {
        if (now.noHub(hub) || index < 0 || what < 0 || what > 5) {
            return INVALID;
        }
        Hub h = now.hubs.get(hub);
        if (index >= h.slots.size()) {
            return ABSENT;
        }
        int s = new ArrayList<>(h.slots.keySet()).get(index);
        switch (what) {
            case 0:
                return s;
            case 1:
                return h.slots.get(s).firstCame;
            case 2:
                return h.slots.get(s).frames.size();
            case 3:
                int all = 0;
                for (int[] child : now.children(hub)) {
                    all += now.expected(hub, child, s);
                }
                return all;
            case 4:
                return now.complete(hub, s) ? 1 : 0;
            default:
                return now.waitLeft(hub, s);
        }
    }

    private Output output(int index) {
        int n = now.outputs.size();
        return index < Math.min(8, n) ? now.outputs.get(n - 1 - index) : null;
    }

    int outAt(int index, int what) {
        if (index < 0 || what < 0 || what > 4) {
            return INVALID;
        }
        Output o = output(index);
        if (o == null) {
            return ABSENT;
        }
        int flags = o.missing > 0 ? 16 : 0;
        for (Reading r : o.readings.values()) {
            flags |= r.flags;
        }
        return switch (what) {
            case 0 -> o.stamp;
            case 1 -> o.time;
            case 2 -> flags;
            case 3 -> o.readings.size();
            default -> o.missing;
        };
    }

    private static int tell(Reading r, int what) {
        return r == null ? ABSENT : what == 0 ? r.value : r.flags;
    }

    int readingAt(int index, int unit, int what) {
        if (index < 0 || now.noUnit(unit) || what < 0 || what > 1) {
            return INVALID;
        }
        Output o = output(index);
        return o == null ? ABSENT : tell(o.readings.get(unit), what);
    }

    int heldBy(int hub, int unit, int what) {
        if (now.noHub(hub) || now.noUnit(unit) || what < 0 || what > 1) {
            return INVALID;
        }
        return tell(now.hubs.get(hub).memory.get(unit), what);
    }

    int nextOut() {
        State future = now.copy();
        for (int n = 1; n <= 200; n++) {
            future.tick();
            if (future.outputs.size() > now.outputs.size()) {
                return n;
            }
        }
        return ABSENT;
    }

    int foresee(int ticks) {
        if (ticks < 1 || ticks > 200) {
            return INVALID;
        }
        State future = now.copy();
        future.doPass(ticks);
        int n = future.outputs.size();
        return n == 0 ? ABSENT : future.outputs.get(n - 1).stamp;
    }

    int count(int what) {
        int late = 0;
        int doubles = 0;
        for (Hub h : now.hubs) {
            late += h.late;
            doubles += h.doubles;
        }
        int most = Integer.MIN_VALUE;
        for (Output o : now.outputs) {
            most = Math.max(most, o.time - o.stamp);
        }
        return switch (what) {
            case 0 -> now.hubs.size();
            case 1 -> now.unitsOf(0).size();
            case 2 -> now.time;
            case 3 -> now.travels.size();
            case 4 -> now.outputs.size();
            case 5 -> Math.min(8, now.outputs.size());
            case 6 -> late;
            case 7 -> doubles;
            case 8 -> now.outputs.isEmpty() ? ABSENT : most;
            case 9 -> history.size();
            case 10 -> text.length();
            default -> INVALID;
        };
    }

    int undo() {
        if (history.isEmpty()) {
            return IMPOSSIBLE;
        }
        now = history.removeLast();
        return history.size();
    }

    int type(int character) {
        if (character < 32 || character > 126) {
            return INVALID;
        }
        if (text.length() >= 60) {
            return LIMIT;
        }
        text += (char) character;
        return text.length();
    }

    int clearText() {
        int n = text.length();
        text = "";
        return n;
    }

    private static final Pattern ORDER =
            Pattern.compile("(?:m([0-9]{1,6}),([0-9]{1,6}),(-?[0-9]{1,6})|p([0-9]{1,6})|x([0-9]{1,6}));");

    /** Position, reason (0: none), orders done. */
    private int[] run(State on) {
        int at = 0;
        int done = 0;
        Matcher m = ORDER.matcher(text);
        while (at < text.length()) {
            m.region(at, text.length());
            if (!m.lookingAt()) {
                return new int[] {at, 1, done};
            }
            int error;
            if (m.group(1) != null) {
                int unit = Integer.parseInt(m.group(1));
                if (on.noUnit(unit)) {
                    return new int[] {at, 2, done};
                }
                int stamp = Integer.parseInt(m.group(2));
                int value = Integer.parseInt(m.group(3));
                error = on.sendError(unit, stamp, value, 0, 1);
                if (error == 0) {
                    on.doSend(unit, stamp, value, 0, 1);
                }
            } else if (m.group(4) != null) {
                int ticks = Integer.parseInt(m.group(4));
                error = on.passError(ticks);
                if (error == 0) {
                    on.doPass(ticks);
                }
            } else {
                int unit = Integer.parseInt(m.group(5));
                if (on.noUnit(unit)) {
                    return new int[] {at, 2, done};
                }
                error = on.takeOffError(unit);
                if (error == 0) {
                    on.units.get(unit).off = true;
                }
            }
            if (error != 0) {
                return new int[] {at, 3, done};
            }
            done++;
            at = m.end();
        }
        return new int[] {0, 0, done};
    }

    int fault(int what) {
        if (what < 0 || what > 1) {
            return INVALID;
        }
        int[] found = run(now.copy());
        return found[1] == 0 ? ABSENT : found[what];
    }

    int play() {
        State after = now.copy();
        int[] found = run(after);
        if (found[1] != 0) {
            return IMPOSSIBLE;
        }
        remember();
        now = after;
        return found[2];
    }
}
