import java.util.Arrays;

/** Concentrators of measured frames, nested in a tree. What each call does stands in DOC.md. */
public final class PhasorTree {
    public static final int INVALID_ARGUMENT = -1000001;
    public static final int NOT_POSSIBLE = -1000002;
    public static final int LIMIT_REACHED = -1000003;
    public static final int NOT_FOUND = -1000004;

    private static final int NO_ERROR = 0;
    private static final int NONE = -1;
    private static final int ROOT = 0;

    private static final int MAX_HUBS = 5;
    private static final int MAX_UNITS = 10;
    // A child is told by one number: a hub by its own, a unit by MAX_HUBS plus its own.
    private static final int MAX_CHILDREN = MAX_HUBS + MAX_UNITS;
    private static final int MAX_PERIOD = 20;
    private static final int MAX_TIME = 20000;
    private static final int MAX_VALUE = 100000;
    private static final int MAX_SENT_FLAGS = 15;
    private static final int MAX_SENT_TICKS = 60;
    private static final int MAX_ON_WAY = 40;
    private static final int MAX_PASSED_TICKS = 100;
    private static final int MAX_FORETOLD_TICKS = 200;
    private static final int MAX_OUTPUTS = 8;
    private static final int MAX_STATES = 4;
    private static final int MAX_TEXT = 60;
    private static final int MAX_DIGITS = 6;
    // Every frame in a row goes back to a frame that was sent with a stamp of its own, or to one of
    // the 40 on their way, so the 512 calls of an object cannot fill a row of this length.
    private static final int MAX_ROW = 1024;

    // What a hub is set to, numbered as in set and hubOf.
    private static final int WAIT = 0;
    private static final int RULE = 1;
    private static final int FILTER = 2;
    private static final int DELAY = 3;
    private static final int PERIOD = 4;
    private static final int SETTINGS = 5;
    private static final int[] LEAST_SETTING = {0, 0, 0, 0, 1};
    private static final int[] MOST_SETTING = {40, 1, 2, 20, 20};

    private static final int BY_STAMP = 0;
    private static final int NO_FILTER = 0;
    private static final int MEAN = 1;

    private static final int NOT_VALID = 1;
    private static final int UNIT_MISSING = 16;
    private static final int IN_PART = 32;
    private static final int FILTERED = 64;
    private static final int HELD = 128;

    private static final int BAD_FORM = 1;
    private static final int NO_SUCH_UNIT = 2;
    private static final int ORDER_NOT_POSSIBLE = 3;

    private final Tree[] history = new Tree[MAX_STATES];
    private final Orders orders = new Orders();
    private Tree now = new Tree();
    // The future is foretold here, and the orders of the text are done here first.
    private Tree trial = new Tree();
    private int states = 0;

    public PhasorTree() {
        for (int i = 0; i < MAX_STATES; i++) {
            history[i] = new Tree();
        }
    }

    // ---- the tree

    public int hub(int above, int period) {
        int error = now.joinError(above, period, now.hubCount < MAX_HUBS);
        if (error != NO_ERROR) {
            return error;
        }
        remember();
        return now.addHub(above, period);
    }

    public int unit(int hub, int period) {
        int error = now.joinError(hub, period, now.unitCount < MAX_UNITS);
        if (error != NO_ERROR) {
            return error;
        }
        remember();
        return now.addUnit(hub, period);
    }

    public int takeOff(int unit) {
        int error = now.retireError(unit);
        if (error != NO_ERROR) {
            return error;
        }
        remember();
        now.retire(unit);
        return now.unitsLeft();
    }

    public int set(int hub, int what, int value) {
        int error = now.settingError(hub, what, value);
        if (error != NO_ERROR) {
            return error;
        }
        remember();
        return now.changeSetting(hub, what, value);
    }

    public int hubOf(int hub, int what) {
        if (!now.hasHub(hub) || !isWithin(what, 0, 14)) {
            return INVALID_ARGUMENT;
        }
        return now.hubFact(hub, what);
    }

    public int unitOf(int unit, int what) {
        if (!now.hasUnit(unit) || !isWithin(what, 0, 6)) {
            return INVALID_ARGUMENT;
        }
        return now.unitFact(unit, what);
    }

    public int unitAt(int hub, int index) {
        if (!now.hasHub(hub) || index < 0) {
            return INVALID_ARGUMENT;
        }
        return now.unitOfHub(hub, index);
    }

    // ---- frames

    public int send(int unit, int stamp, int value, int flags, int ticks) {
        int error = now.departError(unit, stamp, value, flags, ticks);
        if (error != NO_ERROR) {
            return error;
        }
        remember();
        now.depart(unit, stamp, value, flags, ticks);
        return now.way.size;
    }

    public int pass(int ticks) {
        int error = now.elapseError(ticks);
        if (error != NO_ERROR) {
            return error;
        }
        remember();
        now.elapse(ticks);
        return now.time;
    }

    public int slotAt(int hub, int index, int what) {
        if (!now.hasHub(hub) || index < 0 || !isWithin(what, 0, 5)) {
            return INVALID_ARGUMENT;
        }
        return now.slotFact(hub, index, what);
    }

    public int outAt(int index, int what) {
        if (index < 0 || !isWithin(what, 0, 4)) {
            return INVALID_ARGUMENT;
        }
        return now.outputFact(index, what);
    }

    public int readingAt(int index, int unit, int what) {
        if (index < 0 || !now.hasUnit(unit) || !isWithin(what, 0, 1)) {
            return INVALID_ARGUMENT;
        }
        Frame output = now.output(index);
        return output == null ? NOT_FOUND : output.readingFact(unit, what);
    }

    public int heldBy(int hub, int unit, int what) {
        if (!now.hasHub(hub) || !now.hasUnit(unit) || !isWithin(what, 0, 1)) {
            return INVALID_ARGUMENT;
        }
        return now.hubs[hub].held.readingFact(unit, what);
    }

    public int nextOut() {
        trial.copyFrom(now);
        for (int ticks = 1; ticks <= MAX_FORETOLD_TICKS; ticks++) {
            trial.elapse(1);
            if (trial.outputCount > now.outputCount) {
                return ticks;
            }
        }
        return NOT_FOUND;
    }

    public int foresee(int ticks) {
        if (!isWithin(ticks, 1, MAX_FORETOLD_TICKS)) {
            return INVALID_ARGUMENT;
        }
        trial.copyFrom(now);
        trial.elapse(ticks);
        return trial.outputFact(0, 0);
    }

    public int count(int what) {
        switch (what) {
            case 9:
                return states;
            case 10:
                return orders.length;
            default:
                return isWithin(what, 0, 8) ? now.total(what) : INVALID_ARGUMENT;
        }
    }

    public int undo() {
        if (states == 0) {
            return NOT_POSSIBLE;
        }
        states--;
        Tree undone = now;
        now = history[states];
        history[states] = undone;
        return states;
    }

    // ---- texts

    public int type(int character) {
        if (!isWithin(character, 32, 126)) {
            return INVALID_ARGUMENT;
        }
        return orders.append((char) character) ? orders.length : LIMIT_REACHED;
    }

    public int clearText() {
        int length = orders.length;
        orders.length = 0;
        return length;
    }

    public int fault(int what) {
        if (!isWithin(what, 0, 1)) {
            return INVALID_ARGUMENT;
        }
        orders.perform(trial, now);
        if (orders.reason == NO_ERROR) {
            return NOT_FOUND;
        }
        return what == 0 ? orders.start : orders.reason;
    }

    public int play() {
        orders.perform(trial, now);
        if (orders.reason != NO_ERROR) {
            return NOT_POSSIBLE;
        }
        remember();
        Tree played = trial;
        trial = now;
        now = played;
        return orders.done;
    }

    /** Adds the present state to the history; beyond 4 the oldest one is dropped, its object used again. */
    private void remember() {
        if (states == MAX_STATES) {
            Tree oldest = history[0];
            for (int i = 1; i < MAX_STATES; i++) {
                history[i - 1] = history[i];
            }
            states--;
            history[states] = oldest;
        }
        history[states].copyFrom(now);
        states++;
    }

    private static boolean isWithin(int number, int least, int most) {
        return number >= least && number <= most;
    }

    private static boolean isMultiple(int number, int of) {
        return of > 0 && number % of == 0;
    }

    private static int quotient(int number, int divisor) {
        return divisor > 0 ? number / divisor : 0;
    }

    private static boolean goTogether(int period, int other) {
        return isMultiple(period, other) || isMultiple(other, period);
    }

    /** A frame on its way, in a slot, or put out; a hub also remembers the latest readings in one. */
    private static final class Frame {
        private int child = NONE;
        private int stamp = 0;
        private int slot = 0;
        // When it is due, while it is on its way; later when it came, or when the root released it.
        private int time = 0;
        private int missing = 0;
        // Bit u is set if there is a reading of the unit u.
        private int present = 0;
        private final int[] values = new int[MAX_UNITS];
        private final int[] flags = new int[MAX_UNITS];

        private void copyFrom(Frame other) {
            child = other.child;
            stamp = other.stamp;
            slot = other.slot;
            time = other.time;
            missing = other.missing;
            present = other.present;
            System.arraycopy(other.values, 0, values, 0, MAX_UNITS);
            System.arraycopy(other.flags, 0, flags, 0, MAX_UNITS);
        }

        private void begin(int fromChild, int withStamp) {
            child = fromChild;
            stamp = withStamp;
            missing = 0;
            present = 0;
        }

        private boolean has(int unit) {
            return unit >= 0 && unit < MAX_UNITS && (present >> unit & 1) != 0;
        }

        private void put(int unit, int value, int flag) {
            if (isWithin(unit, 0, MAX_UNITS - 1)) {
                present |= 1 << unit;
                values[unit] = value;
                flags[unit] = flag;
            }
        }

        private int readingFact(int unit, int what) {
            if (!has(unit)) {
                return NOT_FOUND;
            }
            return what == 0 ? values[unit] : flags[unit];
        }

        private int flagsTogether() {
            int together = missing > 0 ? UNIT_MISSING : 0;
            for (int unit = 0; unit < MAX_UNITS; unit++) {
                together |= has(unit) ? flags[unit] : 0;
            }
            return together;
        }
    }

    /** Frames in a row. Those taken out stay behind the end, so that their objects are used again. */
    private static final class Row {
        private Frame[] frames = new Frame[8];
        private int size = 0;

        private void copyFrom(Row other) {
            size = 0;
            for (int i = 0; i < other.size; i++) {
                insert(i, other.frames[i]);
            }
        }

        private void insert(int index, Frame source) {
            grow();
            if (size >= frames.length || !isWithin(index, 0, size)) {
                return;
            }
            Frame spare = frames[size] == null ? new Frame() : frames[size];
            for (int i = size; i > index; i--) {
                frames[i] = frames[i - 1];
            }
            frames[index] = spare;
            spare.copyFrom(source);
            size++;
        }

        private void grow() {
            if (size < frames.length || frames.length >= MAX_ROW) {
                return;
            }
            Frame[] more = new Frame[2 * frames.length];
            for (int i = 0; i < frames.length; i++) {
                more[i] = frames[i];
            }
            frames = more;
        }

        private void swap(int index, int other) {
            Frame frame = frames[index];
            frames[index] = frames[other];
            frames[other] = frame;
        }

        private void removeFirst(int many) {
            for (int i = many; i < size; i++) {
                swap(i - many, i);
            }
            size -= many;
        }

        private int framesFrom(int child) {
            int many = 0;
            for (int i = 0; i < size; i++) {
                many += frames[i].child == child ? 1 : 0;
            }
            return many;
        }

        /** Of a row in order of slots: where the slot ends whose first frame is at start. */
        private int slotEnd(int start) {
            int end = start;
            while (end < size && frames[end].slot == frames[start].slot) {
                end++;
            }
            return end;
        }

        /** Of a row in order of slots: where the slot with this index starts, NONE if there are fewer. */
        private int slotStart(int index) {
            int start = 0;
            for (int i = 0; i < index && start < size; i++) {
                start = slotEnd(start);
            }
            return start < size ? start : NONE;
        }

        private int slots() {
            int many = 0;
            for (int i = 0; i < size; i++) {
                many += i == 0 || frames[i].slot != frames[i - 1].slot ? 1 : 0;
            }
            return many;
        }

        /** Of a row in order of slots: where the next frame of a slot belongs. */
        private int placeFor(int slot) {
            int place = size;
            while (place > 0 && frames[place - 1].slot > slot) {
                place--;
            }
            return place;
        }

        private boolean hasIn(int slot, Frame like) {
            for (int i = 0; i < size; i++) {
                Frame frame = frames[i];
                if (frame.slot == slot && frame.child == like.child && frame.stamp == like.stamp) {
                    return true;
                }
            }
            return false;
        }
    }

    private static final class Unit {
        private int hub = ROOT;
        private int period = 1;
        private boolean isOff = false;
        private int sent = 0;

        private void begin(int atHub, int itsPeriod) {
            hub = atHub;
            period = itsPeriod;
            isOff = false;
            sent = 0;
        }

        private void copyFrom(Unit other) {
            hub = other.hub;
            period = other.period;
            isOff = other.isOff;
            sent = other.sent;
        }
    }

    private static final class Hub {
        private final int[] settings = new int[SETTINGS];
        // The frames of all slots: in order of the slots, those of one slot as they came.
        private final Row kept = new Row();
        private final Frame held = new Frame();
        private int above = NONE;
        private int depth = 0;
        private int released = 0;
        private int late = 0;
        private int doubles = 0;
        private int latest = NONE;

        private void begin(int itsAbove, int itsDepth, int period) {
            Arrays.fill(settings, 0);
            settings[PERIOD] = period;
            kept.size = 0;
            held.present = 0;
            above = itsAbove;
            depth = itsDepth;
            released = 0;
            late = 0;
            doubles = 0;
            latest = NONE;
        }

        private void copyFrom(Hub other) {
            System.arraycopy(other.settings, 0, settings, 0, SETTINGS);
            kept.copyFrom(other.kept);
            held.copyFrom(other.held);
            above = other.above;
            depth = other.depth;
            released = other.released;
            late = other.late;
            doubles = other.doubles;
            latest = other.latest;
        }

        private boolean isUntouched() {
            return kept.size == 0 && released == 0;
        }

        private int slotFor(int stamp, int childPeriod) {
            int period = settings[PERIOD];
            return childPeriod <= period ? quotient(stamp + period - 1, period) * period : stamp;
        }

        private int waitLeft(int start, int time) {
            Frame first = kept.frames[start];
            int since = settings[RULE] == BY_STAMP ? first.slot : first.time;
            return Math.max(0, since + settings[WAIT] - time);
        }
    }

    /** Everything that a change records: the hubs, the units, the frames, the outputs and the time. */
    private static final class Tree {
        private final Hub[] hubs = new Hub[MAX_HUBS];
        private final Unit[] units = new Unit[MAX_UNITS];
        // In the order in which they were sent or released.
        private final Row way = new Row();
        // The output with the number n is at n % MAX_OUTPUTS.
        private final Frame[] outputs = new Frame[MAX_OUTPUTS];
        private int hubCount = 0;
        private int unitCount = 0;
        private int time = 0;
        private int outputCount = 0;
        private int mostTicks = 0;

        // Made once and used again by each call; nothing in them outlasts a call.
        private final Frame built = new Frame();
        private final int[] tally = new int[MAX_CHILDREN];
        private final int[] taken = new int[MAX_PERIOD];

        private Tree() {
            for (int i = 0; i < MAX_HUBS; i++) {
                hubs[i] = new Hub();
            }
            for (int i = 0; i < MAX_UNITS; i++) {
                units[i] = new Unit();
            }
            for (int i = 0; i < MAX_OUTPUTS; i++) {
                outputs[i] = new Frame();
            }
            hubs[ROOT].begin(NONE, 0, 1);
            hubCount = 1;
        }

        private void copyFrom(Tree other) {
            hubCount = other.hubCount;
            unitCount = other.unitCount;
            time = other.time;
            outputCount = other.outputCount;
            mostTicks = other.mostTicks;
            way.copyFrom(other.way);
            for (int i = 0; i < hubCount; i++) {
                hubs[i].copyFrom(other.hubs[i]);
            }
            for (int i = 0; i < unitCount; i++) {
                units[i].copyFrom(other.units[i]);
            }
            for (int i = 0; i < outputsKept(); i++) {
                outputs[i].copyFrom(other.outputs[i]);
            }
        }

        // ---- hubs and units

        private boolean hasHub(int hub) {
            return isWithin(hub, 0, hubCount - 1);
        }

        private boolean hasUnit(int unit) {
            return isWithin(unit, 0, unitCount - 1);
        }

        private int joinError(int above, int period, boolean hasRoom) {
            if (!hasHub(above) || !isWithin(period, 1, MAX_PERIOD)) {
                return INVALID_ARGUMENT;
            }
            if (!goTogether(period, hubs[above].settings[PERIOD])) {
                return NOT_POSSIBLE;
            }
            return hasRoom ? NO_ERROR : LIMIT_REACHED;
        }

        private int addHub(int above, int period) {
            hubs[hubCount].begin(above, hubs[above].depth + 1, period);
            return hubCount++;
        }

        private int addUnit(int hub, int period) {
            units[unitCount].begin(hub, period);
            return unitCount++;
        }

        private int retireError(int unit) {
            if (!hasUnit(unit)) {
                return INVALID_ARGUMENT;
            }
            return units[unit].isOff ? NOT_POSSIBLE : NO_ERROR;
        }

        private void retire(int unit) {
            units[unit].isOff = true;
        }

        private int settingError(int hub, int what, int value) {
            if (!hasHub(hub) || !isWithin(what, 0, SETTINGS - 1)
                    || !isWithin(value, LEAST_SETTING[what], MOST_SETTING[what])) {
                return INVALID_ARGUMENT;
            }
            return what != PERIOD || canHavePeriod(hub, value) ? NO_ERROR : NOT_POSSIBLE;
        }

        private boolean canHavePeriod(int hub, int period) {
            int above = hubs[hub].above;
            if (!hubs[hub].isUntouched()) {
                return false;
            }
            if (hasHub(above)
                    && !(hubs[above].isUntouched() && goTogether(period, hubs[above].settings[PERIOD]))) {
                return false;
            }
            for (int child = 0; child < MAX_CHILDREN; child++) {
                if (isChild(child, hub) && !goTogether(period, periodOf(child))) {
                    return false;
                }
            }
            return true;
        }

        private int changeSetting(int hub, int what, int value) {
            int before = hubs[hub].settings[what];
            hubs[hub].settings[what] = value;
            return before;
        }

        private boolean isChild(int child, int hub) {
            if (child < MAX_HUBS) {
                return child < hubCount && hubs[child].above == hub;
            }
            int unit = child - MAX_HUBS;
            return unit < unitCount && units[unit].hub == hub && !units[unit].isOff;
        }

        private int periodOf(int child) {
            return child < MAX_HUBS ? hubs[child].settings[PERIOD] : units[child - MAX_HUBS].period;
        }

        /** The child through which the frames of a unit come to a hub, NONE if it is no unit of it. */
        private int childToward(int unit, int hub) {
            if (units[unit].isOff) {
                return NONE;
            }
            int child = MAX_HUBS + unit;
            int at = units[unit].hub;
            // The way up goes to lower numbers only.
            for (int steps = 0; steps < MAX_HUBS && at > hub; steps++) {
                child = at;
                at = hubs[at].above;
            }
            return at == hub ? child : NONE;
        }

        private int childrenOf(int hub) {
            int many = 0;
            for (int child = 0; child < MAX_CHILDREN; child++) {
                many += isChild(child, hub) ? 1 : 0;
            }
            return many;
        }

        private int unitsUnder(int hub) {
            int many = 0;
            for (int unit = 0; unit < unitCount; unit++) {
                many += childToward(unit, hub) == NONE ? 0 : 1;
            }
            return many;
        }

        private int unitsLeft() {
            return unitsUnder(ROOT);
        }

        private int unitOfHub(int hub, int index) {
            int ahead = 0;
            for (int unit = 0; unit < unitCount; unit++) {
                if (childToward(unit, hub) != NONE && ahead++ == index) {
                    return unit;
                }
            }
            return NOT_FOUND;
        }

        private int delayToRoot(int hub) {
            int ticks = 0;
            int at = hub;
            for (int steps = 0; steps < MAX_HUBS && at > ROOT; steps++) {
                ticks += hubs[at].settings[DELAY];
                at = hubs[at].above;
            }
            return ticks;
        }

        private int hubFact(int number, int what) {
            Hub hub = hubs[number];
            switch (what) {
                case 5:
                    return hub.above == NONE ? NOT_FOUND : hub.above;
                case 6:
                    return hub.depth;
                case 7:
                    return childrenOf(number);
                case 8:
                    return unitsUnder(number);
                case 9:
                    return hub.kept.slots();
                case 10:
                    return hub.released;
                case 11:
                    return hub.late;
                case 12:
                    return hub.doubles;
                case 13:
                    return hub.latest == NONE ? NOT_FOUND : hub.latest;
                case 14:
                    return way.framesFrom(number);
                default:
                    return isWithin(what, 0, SETTINGS - 1) ? hub.settings[what] : INVALID_ARGUMENT;
            }
        }

        private int unitFact(int number, int what) {
            Unit unit = units[number];
            switch (what) {
                case 0:
                    return unit.hub;
                case 1:
                    return unit.period;
                case 2:
                    return unit.isOff ? 1 : 0;
                case 3:
                    return unit.sent;
                case 4:
                    return way.framesFrom(MAX_HUBS + number);
                case 5:
                    return delayToRoot(unit.hub);
                default:
                    return hubs[unit.hub].depth + 1;
            }
        }

        // ---- sending, and time going by

        private int departError(int unit, int stamp, int value, int flags, int ticks) {
            if (!hasUnit(unit) || !isWithin(stamp, 0, MAX_TIME) || !isWithin(value, -MAX_VALUE, MAX_VALUE)
                    || !isWithin(flags, 0, MAX_SENT_FLAGS) || !isWithin(ticks, 1, MAX_SENT_TICKS)) {
                return INVALID_ARGUMENT;
            }
            if (units[unit].isOff || !isMultiple(stamp, units[unit].period) || stamp > time) {
                return NOT_POSSIBLE;
            }
            return way.size < MAX_ON_WAY ? NO_ERROR : LIMIT_REACHED;
        }

        private void depart(int unit, int stamp, int value, int flags, int ticks) {
            built.begin(MAX_HUBS + unit, stamp);
            built.put(unit, value, flags);
            built.time = time + ticks;
            way.insert(way.size, built);
            units[unit].sent++;
        }

        private int elapseError(int ticks) {
            if (!isWithin(ticks, 1, MAX_PASSED_TICKS)) {
                return INVALID_ARGUMENT;
            }
            return time + ticks <= MAX_TIME ? NO_ERROR : LIMIT_REACHED;
        }

        private void elapse(int ticks) {
            for (int i = 0; i < ticks; i++) {
                time++;
                bringDueFrames();
                for (int depth = MAX_HUBS - 1; depth >= 0; depth--) {
                    for (int hub = 0; hub < hubCount; hub++) {
                        if (hubs[hub].depth == depth) {
                            releaseReadySlots(hub);
                        }
                    }
                }
            }
        }

        private void bringDueFrames() {
            // All that are due are due just now, as each tick brings all of its own: their order is that of the row.
            int left = 0;
            for (int i = 0; i < way.size; i++) {
                if (way.frames[i].time <= time) {
                    arrive(way.frames[i]);
                } else {
                    way.swap(left, i);
                    left++;
                }
            }
            way.size = left;
        }

        private void arrive(Frame frame) {
            int child = frame.child;
            boolean isFromUnit = child >= MAX_HUBS;
            boolean isFromOff = isFromUnit && units[child - MAX_HUBS].isOff;
            Hub hub = hubs[isFromUnit ? units[child - MAX_HUBS].hub : hubs[child].above];
            int slot = hub.slotFor(frame.stamp, periodOf(child));
            if (isFromOff || slot <= hub.latest) {
                hub.late++;
            } else if (hub.kept.hasIn(slot, frame)) {
                hub.doubles++;
            } else {
                frame.slot = slot;
                frame.time = time;
                hub.kept.insert(hub.kept.placeFor(slot), frame);
            }
        }

        // ---- slots and releasing

        /** How many frames a slot of a hub expects of a child. */
        private int expectedOf(int child, int hub, int slot) {
            int period = hubs[hub].settings[PERIOD];
            int childPeriod = periodOf(child);
            if (childPeriod <= period) {
                return quotient(period, childPeriod);
            }
            return isMultiple(slot, childPeriod) ? 1 : 0;
        }

        private int expectedOfAll(int hub, int slot) {
            int many = 0;
            for (int child = 0; child < MAX_CHILDREN; child++) {
                many += isChild(child, hub) ? expectedOf(child, hub, slot) : 0;
            }
            return many;
        }

        private boolean isComplete(int hub, int start, int end) {
            Row kept = hubs[hub].kept;
            Arrays.fill(tally, 0);
            for (int i = start; i < end; i++) {
                tally[kept.frames[i].child]++;
            }
            for (int child = 0; child < MAX_CHILDREN; child++) {
                if (isChild(child, hub) && tally[child] < expectedOf(child, hub, kept.frames[start].slot)) {
                    return false;
                }
            }
            return true;
        }

        private boolean isFirstSlotReady(int hub) {
            Row kept = hubs[hub].kept;
            return kept.size > 0
                    && (hubs[hub].waitLeft(0, time) == 0 || isComplete(hub, 0, kept.slotEnd(0)));
        }

        private void releaseReadySlots(int number) {
            Hub hub = hubs[number];
            for (int left = hub.kept.size; left > 0 && isFirstSlotReady(number); left--) {
                build(number);
                hub.kept.removeFirst(hub.kept.slotEnd(0));
                hub.released++;
                hub.latest = built.stamp;
                if (number == ROOT) {
                    putOut();
                } else if (hub.settings[DELAY] == 0) {
                    arrive(built);
                } else {
                    built.time = time + hub.settings[DELAY];
                    way.insert(way.size, built);
                }
            }
        }

        private void putOut() {
            int ticks = time - built.stamp;
            mostTicks = outputCount == 0 ? ticks : Math.max(mostTicks, ticks);
            built.time = time;
            outputs[outputCount % MAX_OUTPUTS].copyFrom(built);
            outputCount++;
        }

        /** Builds the frame of the first slot of a hub, which remembers its readings. */
        private void build(int number) {
            Hub hub = hubs[number];
            built.begin(number, hub.kept.frames[0].slot);
            for (int unit = 0; unit < unitCount; unit++) {
                int child = childToward(unit, number);
                if (child == NONE) {
                    continue;
                }
                if (expectedOf(child, number, built.stamp) == 0) {
                    takeHeld(unit, hub.held);
                } else if (hub.settings[FILTER] != NO_FILTER && periodOf(child) < hub.settings[PERIOD]) {
                    takeFiltered(unit, child, number);
                } else {
                    takeStamped(unit, child, hub.kept);
                }
                if (built.has(unit)) {
                    hub.held.put(unit, built.values[unit], built.flags[unit]);
                } else {
                    built.missing++;
                }
            }
        }

        private void takeHeld(int unit, Frame held) {
            if (held.has(unit)) {
                built.put(unit, held.values[unit], held.flags[unit] | HELD);
            }
        }

        private void takeStamped(int unit, int child, Row kept) {
            int end = kept.slotEnd(0);
            for (int i = 0; i < end; i++) {
                Frame frame = kept.frames[i];
                if (frame.child == child && frame.stamp == built.stamp && frame.has(unit)) {
                    built.put(unit, frame.values[unit], frame.flags[unit]);
                }
            }
        }

        private void takeFiltered(int unit, int child, int number) {
            Hub hub = hubs[number];
            int end = hub.kept.slotEnd(0);
            boolean onlyValid = hasValidReading(unit, child, hub.kept, end);
            int many = 0;
            int sum = 0;
            int flags = FILTERED;
            for (int i = 0; i < end && many < MAX_PERIOD; i++) {
                Frame frame = hub.kept.frames[i];
                if (frame.child == child && frame.has(unit)
                        && !(onlyValid && (frame.flags[unit] & NOT_VALID) != 0)) {
                    insertSorted(frame.values[unit], many);
                    many++;
                    sum += frame.values[unit];
                    flags |= frame.flags[unit];
                }
            }
            if (many == 0) {
                return;
            }
            flags |= many < expectedOf(child, number, built.stamp) ? IN_PART : 0;
            boolean isMean = hub.settings[FILTER] == MEAN;
            built.put(unit, isMean ? quotient(sum, many) : taken[(many - 1) / 2], flags);
        }

        private boolean hasValidReading(int unit, int child, Row kept, int end) {
            for (int i = 0; i < end; i++) {
                Frame frame = kept.frames[i];
                if (frame.child == child && frame.has(unit) && (frame.flags[unit] & NOT_VALID) == 0) {
                    return true;
                }
            }
            return false;
        }

        private void insertSorted(int value, int many) {
            int place = many;
            while (place > 0 && taken[place - 1] > value) {
                taken[place] = taken[place - 1];
                place--;
            }
            taken[place] = value;
        }

        private int slotFact(int number, int index, int what) {
            Hub hub = hubs[number];
            int start = hub.kept.slotStart(index);
            if (start == NONE) {
                return NOT_FOUND;
            }
            int end = hub.kept.slotEnd(start);
            Frame first = hub.kept.frames[start];
            switch (what) {
                case 0:
                    return first.slot;
                case 1:
                    return first.time;
                case 2:
                    return end - start;
                case 3:
                    return expectedOfAll(number, first.slot);
                case 4:
                    return isComplete(number, start, end) ? 1 : 0;
                default:
                    return hub.waitLeft(start, time);
            }
        }

        // ---- outputs and totals

        private int outputsKept() {
            return Math.min(outputCount, MAX_OUTPUTS);
        }

        /** The output that is so many before the latest one, null if it is not kept. */
        private Frame output(int before) {
            return isWithin(before, 0, outputsKept() - 1) ? outputs[(outputCount - 1 - before) % MAX_OUTPUTS] : null;
        }

        private int outputFact(int index, int what) {
            Frame output = output(index);
            if (output == null) {
                return NOT_FOUND;
            }
            switch (what) {
                case 0:
                    return output.stamp;
                case 1:
                    return output.time;
                case 2:
                    return output.flagsTogether();
                case 3:
                    return Integer.bitCount(output.present);
                default:
                    return output.missing;
            }
        }

        private int total(int what) {
            switch (what) {
                case 0:
                    return hubCount;
                case 1:
                    return unitsLeft();
                case 2:
                    return time;
                case 3:
                    return way.size;
                case 4:
                    return outputCount;
                case 5:
                    return outputsKept();
                case 6:
                    return lateOfAll();
                case 7:
                    return doublesOfAll();
                default:
                    return outputCount == 0 ? NOT_FOUND : mostTicks;
            }
        }

        private int lateOfAll() {
            int many = 0;
            for (int hub = 0; hub < hubCount; hub++) {
                many += hubs[hub].late;
            }
            return many;
        }

        private int doublesOfAll() {
            int many = 0;
            for (int hub = 0; hub < hubCount; hub++) {
                many += hubs[hub].doubles;
            }
            return many;
        }
    }

    /** The text, and its orders as they are read one after the other. */
    private static final class Orders {
        private final char[] text = new char[MAX_TEXT];
        private int length = 0;
        private int at = 0;
        private char kind = ' ';
        // The unit or the ticks, the stamp, the value.
        private final int[] numbers = new int[3];
        // What the latest run over the text found: how many orders it did, where it stopped and why.
        private int done = 0;
        private int start = 0;
        private int reason = NO_ERROR;

        private boolean append(char character) {
            if (length >= MAX_TEXT) {
                return false;
            }
            text[length] = character;
            length++;
            return true;
        }

        /** Does the orders of the text on a copy of the tree, up to the first one that is not possible. */
        private void perform(Tree tree, Tree original) {
            tree.copyFrom(original);
            at = 0;
            done = 0;
            reason = NO_ERROR;
            while (at < length && done < MAX_TEXT) {
                start = at;
                reason = reasonAgainst(tree);
                if (reason != NO_ERROR) {
                    return;
                }
                if (kind == 'm') {
                    tree.depart(numbers[0], numbers[1], numbers[2], 0, 1);
                } else if (kind == 'p') {
                    tree.elapse(numbers[0]);
                } else {
                    tree.retire(numbers[0]);
                }
                done++;
            }
        }

        private int reasonAgainst(Tree tree) {
            if (!readOrder()) {
                return BAD_FORM;
            }
            if (kind != 'p' && !tree.hasUnit(numbers[0])) {
                return NO_SUCH_UNIT;
            }
            return orderError(tree) == NO_ERROR ? NO_ERROR : ORDER_NOT_POSSIBLE;
        }

        private int orderError(Tree tree) {
            switch (kind) {
                case 'm':
                    return tree.departError(numbers[0], numbers[1], numbers[2], 0, 1);
                case 'p':
                    return tree.elapseError(numbers[0]);
                default:
                    return tree.retireError(numbers[0]);
            }
        }

        private boolean readOrder() {
            kind = at < length ? text[at] : ' ';
            at++;
            switch (kind) {
                case 'm':
                    return readNumber(0, ',') && readNumber(1, ',') && readNumber(2, ';');
                case 'p':
                case 'x':
                    return readNumber(0, ';');
                default:
                    return false;
            }
        }

        private boolean readNumber(int index, char end) {
            // Of the three numbers the value alone may be below 0.
            boolean isNegative = index == 2 && isAt('-');
            at += isNegative ? 1 : 0;
            int number = 0;
            int digits = 0;
            while (digits <= MAX_DIGITS && at < length && text[at] >= '0' && text[at] <= '9') {
                number = 10 * number + (text[at] - '0');
                digits++;
                at++;
            }
            numbers[index] = isNegative ? -number : number;
            boolean isWhole = isWithin(digits, 1, MAX_DIGITS) && isAt(end);
            at++;
            return isWhole;
        }

        private boolean isAt(char character) {
            return at < length && text[at] == character;
        }
    }
}
