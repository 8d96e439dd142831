/** The sentences of "Releasing". */
final class ReleasingSentences {
    private static final int NO_FILTER = 0;
    private static final int MEAN = 1;
    private static final int MEDIAN = 2;

    private ReleasingSentences() {
    }

    static void tests(Sentences s) {
        s.section("Releasing");
        s.test("The frame that a hub releases has the stamp S", ReleasingSentences::stampOfTheSlot);
        s.test("and a reading for each of its units, by ascending numbers, that has one;", ReleasingSentences::eachThatHasOne);
        s.test("the others are missing.", ReleasingSentences::theOthersAreMissing);
        s.test("For a unit, by the child through which it comes:", ReleasingSentences::byTheChild);
        s.test("if the filter is 0, or both periods are the same, that with the stamp S", ReleasingSentences::withTheStamp);
        s.test("that with the stamp S (none: it is missing).", ReleasingSentences::noneWithTheStamp);
        s.test("Otherwise those that are valid (flag 1 is not set) are taken, or all if none of them is valid",
                ReleasingSentences::validOnes);
        s.test("(none at all: it is missing):", ReleasingSentences::noneAtAll);
        s.test("the filter 1 takes the mean of their values (the sum divided by how many they are)",
                ReleasingSentences::mean);
        s.test("the filter 2 the median (sorted, of an even number the lower one of both in the middle);",
                ReleasingSentences::median);
        s.test("the flags are all flags of those that are taken, together, and 64 (filtered)",
                ReleasingSentences::flagsTogether);
        s.test("and 32 (in part), if those that are taken are fewer than the frames that the slot expects of the child.",
                ReleasingSentences::inPart);
        s.test("if S is a multiple of its period, the reading in its frame with the stamp S (none: it is missing);",
                ReleasingSentences::slowChildAtItsStamp);
        s.test("otherwise the latest reading that the hub has released for this unit, with the flag 128 (held) set, too"
                + " (none: it is missing).", ReleasingSentences::heldReading);
        s.test("The flags of the frame are those of all its readings together", ReleasingSentences::flagsOfTheFrame);
        s.test("and 16, if a unit is missing.", ReleasingSentences::flagOfMissingUnits);
        s.test("The hub remembers for each unit the latest reading that it has released.", ReleasingSentences::remembers);
        s.test("A frame that is released by the root is an output;", ReleasingSentences::outputsAreOfTheRoot);
        s.test("the latest 8 outputs are kept.", ReleasingSentences::eightAreKept);
        s.test("A frame that is released by another hub comes to the hub above it as many ticks later as the delay tells.",
                ReleasingSentences::delays);
    }

    /** A root of this period and filter at the time 24, with a unit of each of these periods; it waits for nothing. */
    private static Probe root(int period, int filter, int... periods) {
        Probe x = new Probe();
        x.set(0, 4, period);
        x.set(0, 2, filter);
        for (int some : periods) {
            x.unit(0, some);
        }
        x.passTo(24);
        return x;
    }

    private static void reading(Probe x, int unit, int value, int flags) {
        x.due(value, "readingAt", 0, unit, 0);
        x.due(flags, "readingAt", 0, unit, 1);
        x.due(value, "heldBy", 0, unit, 0);
        x.due(flags, "heldBy", 0, unit, 1);
    }

    private static void missing(Probe x, int unit) {
        x.due(Check.ABSENT, "readingAt", 0, unit, 0);
        x.due(Check.ABSENT, "readingAt", 0, unit, 1);
    }

    private static void stampOfTheSlot() {
        for (int stamp = 0; stamp <= 12; stamp++) {
            Probe x = root(4, MEAN, 1);
            x.send(0, stamp, 0, 0, 1);
            x.pass(1);
            x.due((stamp + 3) / 4 * 4, "outAt", 0, 0);
            x.due((stamp + 3) / 4 * 4, "hubOf", 0, 13);
        }
    }

    private static void eachThatHasOne() {
        // One, two, three of three.
        for (int many = 1; many <= 3; many++) {
            Probe x = root(1, NO_FILTER, 1, 1, 1, 1);
            x.takeOff(3);
            for (int unit = 3 - many; unit < 3; unit++) {
                x.send(unit, 5, 10 * unit, 0, 1);
            }
            x.pass(1);
            x.due(1, "count", 4);
            x.due(many, "outAt", 0, 3);
            for (int unit = 3 - many; unit < 3; unit++) {
                reading(x, unit, 10 * unit, 0);
            }
        }
        // A slot whose only frame is of a unit that was taken off then: no reading, and no unit either.
        Probe y = root(1, NO_FILTER, 1, 1);
        y.set(0, 0, 40);
        y.send(0, 20, 5, 3, 1);
        y.pass(1);
        y.takeOff(0);
        y.takeOff(1);
        y.pass(1);
        y.due(1, "count", 4);
        y.due(0, "outAt", 0, 3);
        y.due(0, "outAt", 0, 4);
        y.due(0, "outAt", 0, 2);
    }

    private static void theOthersAreMissing() {
        for (int many = 1; many <= 10; many++) {
            Probe x = new Probe();
            for (int unit = 0; unit < 10; unit++) {
                x.unit(0, 1);
            }
            for (int unit = 0; unit < many; unit++) {
                x.send(unit, 0, unit, 0, 1);
            }
            x.pass(1);
            x.due(many, "outAt", 0, 3);
            x.due(10 - many, "outAt", 0, 4);
            x.due(many == 10 ? 0 : 16, "outAt", 0, 2);
        }
        // Those that were taken off are no units, so they are not missing; those that are added later, neither.
        Probe y = new Probe();
        y.unit(0, 1);
        y.unit(0, 1);
        y.takeOff(1);
        y.send(0, 0, 0, 0, 1);
        y.pass(1);
        y.unit(0, 1);
        y.due(0, "outAt", 0, 4);
        y.due(0, "outAt", 0, 2);
    }

    private static void byTheChild() {
        // The unit is slow at hub 1 (2) with its 8, but hub 1 is quick at the root (8): no reading is held there.
        Probe x = new Probe();
        x.set(0, 4, 8);
        x.set(0, 2, MEAN);
        x.hub(0, 2);
        x.unit(1, 8);
        x.unit(1, 2);
        x.passTo(16);
        x.send(0, 8, 40, 0, 1);
        x.send(1, 8, 1, 0, 1);
        x.pass(1);
        reading(x, 0, 40, 64 + 32);
        x.send(1, 10, 2, 0, 1);
        x.send(1, 12, 4, 0, 1);
        x.pass(1);
        // Hub 1 holds 40 for the stamps 10 and 12; the root takes the mean of these, and of 2 and 4.
        reading(x, 0, 40, 128 + 64 + 32);
        reading(x, 1, 3, 64 + 32);
        // The unit is quick at hub 1 (4), but hub 1 is slow at the root (1): it is held there.
        Probe y = new Probe();
        y.hub(0, 4);
        y.unit(1, 1);
        y.unit(0, 1);
        y.passTo(9);
        y.send(0, 4, 7, 0, 1);
        y.send(1, 4, 0, 0, 1);
        y.pass(1);
        reading(y, 0, 7, 0);
        y.send(1, 5, 0, 0, 1);
        y.pass(1);
        reading(y, 0, 7, 128);
    }

    private static void withTheStamp() {
        int[][] rows = {{4, NO_FILTER, 1}, {4, NO_FILTER, 2}, {4, NO_FILTER, 4}, {4, MEAN, 4}, {4, MEDIAN, 4}, {1, MEAN, 1},
            {1, MEDIAN, 1}, {20, NO_FILTER, 1}, {20, MEDIAN, 20}};
        for (int[] row : rows) {
            for (int first = 0; first <= 1; first++) {
                // The unit 1 keeps the slot 20 open until all of the other one's frames are there.
                Probe x = root(row[0], row[1], row[2], row[0]);
                x.set(0, 0, 40);
                // Even if it is not valid; ahead of the others, or behind them.
                x.send(0, 20, 2, 9, first == 1 ? 1 : 3);
                for (int stamp = 20 - row[2]; stamp > 20 - row[0]; stamp -= row[2]) {
                    x.send(0, stamp, 1, 4, 2);
                }
                x.pass(3);
                x.due(row[0] / row[2], "slotAt", 0, 0, 2);
                x.set(0, 0, 0);
                x.pass(1);
                x.due(20, "outAt", 0, 0);
                reading(x, 0, 2, 9);
            }
        }
    }

    private static void noneWithTheStamp() {
        // All of the slot's stamps but S: with the filter 0 it is missing, and not held either.
        Probe x = root(4, NO_FILTER, 1);
        x.send(0, 8, 5, 0, 1);
        x.pass(1);
        reading(x, 0, 5, 0);
        x.send(0, 9, 1, 0, 1);
        x.send(0, 10, 2, 0, 1);
        x.send(0, 11, 3, 0, 1);
        x.pass(1);
        x.due(12, "outAt", 0, 0);
        missing(x, 0);
        x.due(1, "outAt", 0, 4);
        x.due(16, "outAt", 0, 2);
        x.due(5, "heldBy", 0, 0, 0);
        // Of the same period: none in the slot at all.
        for (int filter = 0; filter <= 2; filter++) {
            Probe y = root(4, filter, 4, 4);
            y.send(1, 8, 5, 0, 1);
            y.pass(1);
            missing(y, 0);
            reading(y, 1, 5, 0);
        }
    }

    /** The flags of up to four readings of the values 10, 20, 30, 50 in one slot, and what is made of them. */
    private static void filtered(int filter, int[] flags, int value, int due) {
        int[] values = {10, 20, 30, 50};
        Probe x = root(4, filter, 1);
        for (int i = 0; i < flags.length; i++) {
            x.send(0, 13 + i, values[i], flags[i], 1);
        }
        x.pass(1);
        reading(x, 0, value, due);
    }

    private static void validOnes() {
        int[] allValid = {0, 2, 4, 8};
        filtered(MEAN, allValid, 27, 64 + 14);
        filtered(MEDIAN, allValid, 20, 64 + 14);
        int[] oneNot = {0, 3, 4, 8};
        filtered(MEAN, oneNot, 30, 64 + 32 + 12);
        filtered(MEDIAN, oneNot, 30, 64 + 32 + 12);
        int[] oneAlone = {1, 1, 2, 1};
        filtered(MEAN, oneAlone, 30, 64 + 32 + 2);
        filtered(MEDIAN, oneAlone, 30, 64 + 32 + 2);
        int[] firstAlone = {14, 1, 1, 1};
        filtered(MEAN, firstAlone, 10, 64 + 32 + 14);
        int[] lastAlone = {1, 1, 1, 0};
        filtered(MEDIAN, lastAlone, 50, 64 + 32);
        // None is valid: all are taken.
        int[] none = {1, 3, 5, 9};
        filtered(MEAN, none, 27, 64 + 15);
        filtered(MEDIAN, none, 20, 64 + 15);
        int[] noneOfTwo = {1, 3};
        filtered(MEAN, noneOfTwo, 15, 64 + 32 + 3);
        int[] noneOfOne = {15};
        filtered(MEDIAN, noneOfOne, 10, 64 + 32 + 15);
        onlyThoseOfTheSlot();
    }

    private static void onlyThoseOfTheSlot() {
        for (int filter = MEAN; filter <= MEDIAN; filter++) {
            // One reading in the slot 16, others in the slots beside it: those are not taken, valid or not.
            for (int flags = 0; flags <= 1; flags++) {
                Probe x = root(4, filter, 1);
                x.set(0, 0, 40);
                x.send(0, 12, 1, 0, 1);
                x.send(0, 14, 50, flags, 1);
                x.send(0, 17, 2, 0, 1);
                x.send(0, 18, 3, 0, 1);
                x.pass(1);
                x.set(0, 0, 9);
                x.pass(1);
                x.due(16, "outAt", 0, 0);
                x.due(1, "hubOf", 0, 9);
                reading(x, 0, 50, 64 + 32 + flags);
            }
        }
    }

    private static void noneAtAll() {
        for (int filter = MEAN; filter <= MEDIAN; filter++) {
            Probe x = root(4, filter, 1, 1);
            x.send(0, 8, 5, 0, 1);
            x.send(1, 8, 6, 0, 1);
            x.pass(1);
            x.send(1, 12, 7, 0, 1);
            x.pass(1);
            missing(x, 0);
            reading(x, 1, 7, 64 + 32);
            x.due(5, "heldBy", 0, 0, 0);
            x.due(1, "outAt", 0, 4);
            // The child has sent frames, but none with a reading of the unit.
            Probe y = root(4, filter);
            y.hub(0, 1);
            y.unit(1, 1);
            y.unit(1, 1);
            y.send(1, 8, 6, 0, 1);
            y.pass(1);
            missing(y, 0);
            reading(y, 1, 6, 64 + 32);
        }
    }

    /** One slot of the period 20, with these values from the first stamp on, in each order that a shift gives. */
    private static void slotOf(int filter, int due, int... values) {
        for (int shift = 0; shift < values.length; shift++) {
            Probe x = root(20, filter, 1);
            for (int i = 0; i < values.length; i++) {
                x.send(0, 1 + i, values[(i + shift) % values.length], 0, 1);
            }
            x.pass(1);
            reading(x, 0, due, values.length == 20 ? 64 : 64 + 32);
        }
    }

    private static void mean() {
        slotOf(MEAN, 7, 7);
        slotOf(MEAN, -7, -7);
        slotOf(MEAN, 3, 3, 4);
        slotOf(MEAN, -3, -3, -4);
        slotOf(MEAN, 2, 1, 2, 5);
        slotOf(MEAN, 2, 1, 3, 4);
        slotOf(MEAN, -2, -1, -3, -4);
        slotOf(MEAN, 0, 1, -2, 1, -1);
        int[] most = new int[20];
        java.util.Arrays.fill(most, 100000);
        slotOf(MEAN, 100000, most);
        most[7] = 99981;
        slotOf(MEAN, 99999, most);
        java.util.Arrays.fill(most, -100000);
        slotOf(MEAN, -100000, most);
        most[7] = -99981;
        slotOf(MEAN, -99999, most);
    }

    private static void median() {
        slotOf(MEDIAN, 7, 7);
        slotOf(MEDIAN, 3, 3, 4);
        slotOf(MEDIAN, -4, -3, -4);
        slotOf(MEDIAN, 4, 1, 4, 90);
        slotOf(MEDIAN, 4, 4, 1, 90);
        slotOf(MEDIAN, 4, 1, 4, 8, 90);
        slotOf(MEDIAN, 4, 90, 4, 8, 1);
        slotOf(MEDIAN, 5, 5, 5, 5, 1);
        slotOf(MEDIAN, 1, 5, 1, 5, 1);
        slotOf(MEDIAN, 3, 5, 4, 3, 2, 1);
        slotOf(MEDIAN, 100000, 100000, -100000, 100000);
        slotOf(MEDIAN, -100000, 100000, -100000);
        int[] twenty = new int[20];
        int[] nineteen = new int[19];
        for (int i = 0; i < 20; i++) {
            twenty[i] = i * 7 % 20;
            nineteen[i % 19] = i * 7 % 19;
        }
        slotOf(MEDIAN, 9, twenty);
        slotOf(MEDIAN, 9, nineteen);
    }

    private static void flagsTogether() {
        for (int filter = MEAN; filter <= MEDIAN; filter++) {
            filtered(filter, new int[] {0, 0, 0, 0}, filter == MEAN ? 27 : 20, 64);
            filtered(filter, new int[] {2, 2, 0, 2}, filter == MEAN ? 27 : 20, 64 + 2);
            filtered(filter, new int[] {2, 4, 8, 0}, filter == MEAN ? 27 : 20, 64 + 14);
            // Of those that are not taken the flags are not taken either.
            filtered(filter, new int[] {15, 0, 0, 0}, filter == MEAN ? 33 : 30, 64 + 32);
        }
        // One that goes through two filters has the flag once; the held one keeps its flag.
        Probe x = root(8, MEAN);
        x.hub(0, 4);
        x.set(1, 2, MEDIAN);
        x.unit(1, 2);
        for (int stamp = 2; stamp <= 8; stamp += 2) {
            x.send(0, stamp, stamp, 2, 1);
        }
        x.pass(1);
        reading(x, 0, 4, 64 + 2);
    }

    private static void inPart() {
        for (int many = 1; many <= 4; many++) {
            Probe x = root(4, MEAN, 1);
            for (int i = 0; i < many; i++) {
                x.send(0, 16 - i, 5, 0, 1);
            }
            x.pass(1);
            reading(x, 0, 5, many == 4 ? 64 : 64 + 32);
            Probe y = root(8, MEDIAN, 2);
            for (int i = 0; i < many; i++) {
                y.send(0, 16 - 2 * i, 5, 0, 1);
            }
            y.pass(1);
            reading(y, 0, 5, many == 4 ? 64 : 64 + 32);
        }
        // The slot has all, but one of them is not valid and not taken.
        filtered(MEAN, new int[] {0, 0, 0, 1}, 20, 64 + 32);
        filtered(MEAN, new int[] {1, 1, 1, 1}, 27, 64 + 1);
        // The slot 0 expects four as well, and can only have one.
        Probe z = root(4, MEAN, 1);
        z.send(0, 0, 5, 0, 1);
        z.pass(1);
        reading(z, 0, 5, 64 + 32);
        // The frames are all there, but one has no reading of the unit, as that was added later.
        Probe w = root(4, MEAN);
        w.hub(0, 2);
        w.unit(1, 2);
        w.send(0, 6, 5, 0, 1);
        w.set(0, 0, 40);
        w.pass(1);
        w.unit(1, 2);
        w.send(0, 8, 7, 0, 1);
        w.send(1, 8, 9, 0, 1);
        w.pass(1);
        w.due(1, "count", 4);
        reading(w, 0, 6, 64);
        reading(w, 1, 9, 64 + 32);
    }

    private static void slowChildAtItsStamp() {
        for (int filter = 0; filter <= 2; filter++) {
            Probe x = root(4, filter, 12, 4);
            x.send(0, 12, 5, 9, 1);
            x.send(1, 12, 0, 0, 1);
            x.pass(1);
            reading(x, 0, 5, 9);
            // At the next one it has none: it is missing, though there is one to hold.
            x.send(1, 24, 0, 0, 1);
            x.pass(1);
            x.due(24, "outAt", 0, 0);
            missing(x, 0);
            x.due(5, "heldBy", 0, 0, 0);
            x.due(9, "heldBy", 0, 0, 1);
            // The stamp 0 is a multiple, too.
            Probe y = root(4, filter, 12, 4);
            y.send(1, 0, 0, 0, 1);
            y.pass(1);
            missing(y, 0);
            Probe z = root(4, filter, 12, 4);
            z.send(0, 0, 6, 0, 1);
            z.send(1, 0, 0, 0, 1);
            z.pass(1);
            reading(z, 0, 6, 0);
        }
    }

    private static void heldReading() {
        Probe x = root(4, MEAN, 12, 4);
        // Nothing to hold yet.
        x.send(1, 4, 0, 0, 1);
        x.pass(1);
        missing(x, 0);
        x.due(16, "outAt", 0, 2);
        x.due(Check.ABSENT, "heldBy", 0, 0, 0);
        x.send(0, 12, 5, 3, 1);
        x.pass(1);
        reading(x, 0, 5, 3);
        // Held between 12 and 24, the flag is set once; it is remembered with the flag.
        for (int stamp = 16; stamp <= 20; stamp += 4) {
            x.send(1, stamp, 0, 0, 1);
            x.pass(1);
            reading(x, 0, 5, 128 + 3);
            x.due(128 + 3, "outAt", 0, 2);
            x.due(2, "outAt", 0, 3);
        }
        x.send(0, 24, 6, 0, 1);
        x.pass(1);
        reading(x, 0, 6, 0);
        // After a missing one the latest that was released is held, not that of the stamp before.
        x.passTo(48);
        x.send(1, 36, 0, 0, 1);
        x.pass(1);
        missing(x, 0);
        x.send(1, 40, 0, 0, 1);
        x.pass(1);
        reading(x, 0, 6, 128);
        // A reading that came, but was dropped as late, is not held.
        x.send(0, 36, 9, 0, 1);
        x.send(1, 44, 0, 0, 1);
        x.pass(1);
        reading(x, 0, 6, 128);
    }

    private static void flagsOfTheFrame() {
        Probe x = root(1, NO_FILTER, 1, 1, 1);
        x.send(0, 5, 0, 0, 1);
        x.send(1, 5, 0, 0, 1);
        x.send(2, 5, 0, 0, 1);
        x.pass(1);
        x.due(0, "outAt", 0, 2);
        x.send(0, 6, 0, 1, 1);
        x.send(1, 6, 0, 4, 1);
        x.send(2, 6, 0, 4, 1);
        x.pass(1);
        x.due(5, "outAt", 0, 2);
        x.send(0, 7, 0, 1, 1);
        x.send(1, 7, 0, 2, 1);
        x.send(2, 7, 0, 12, 1);
        x.pass(1);
        x.due(15, "outAt", 0, 2);
        // All flags that there are: one unit filtered in part, one held, one missing.
        Probe y = new Probe();
        y.set(0, 4, 2);
        y.set(0, 2, MEAN);
        y.unit(0, 1);
        y.unit(0, 4);
        y.unit(0, 2);
        y.passTo(8);
        y.send(1, 4, 0, 12, 1);
        y.pass(1);
        y.send(0, 6, 0, 3, 1);
        y.pass(1);
        y.due(128 + 64 + 32 + 16 + 15, "outAt", 0, 2);
    }

    private static void flagOfMissingUnits() {
        // None missing, one, all; of the flags of readings 16 is none.
        for (int many = 0; many <= 2; many++) {
            Probe x = root(4, NO_FILTER, 1, 1);
            for (int unit = 0; unit < 2; unit++) {
                x.send(unit, unit < many ? 7 : 8, 0, 2, 1);
            }
            x.pass(1);
            x.due(many, "outAt", 0, 4);
            x.due((many > 0 ? 16 : 0) + (many < 2 ? 2 : 0), "outAt", 0, 2);
        }
        // A unit that is missing in the frame of the hub below is missing in the output, and set once.
        Probe y = root(1, NO_FILTER);
        y.hub(0, 1);
        y.unit(1, 1);
        y.unit(1, 1);
        y.send(0, 5, 0, 0, 1);
        y.pass(1);
        y.due(16, "outAt", 0, 2);
        y.due(0, "readingAt", 0, 0, 1);
        y.due(0, "heldBy", 1, 0, 1);
    }

    private static void remembers() {
        Probe x = new Probe();
        x.hub(0, 1);
        x.unit(1, 1);
        x.unit(1, 1);
        x.set(1, 3, 2);
        x.passTo(9);
        x.due(Check.ABSENT, "heldBy", 1, 0, 0);
        x.send(0, 3, 5, 8, 1);
        x.pass(1);
        x.due(5, "heldBy", 1, 0, 0);
        x.due(8, "heldBy", 1, 0, 1);
        x.due(Check.ABSENT, "heldBy", 1, 1, 0);
        x.due(Check.ABSENT, "heldBy", 0, 0, 0);
        x.send(1, 4, 6, 0, 1);
        x.pass(1);
        // Unit 0 was missing this time.
        x.due(5, "heldBy", 1, 0, 0);
        x.due(6, "heldBy", 1, 1, 0);
        x.due(Check.ABSENT, "heldBy", 0, 0, 0);
        x.pass(1);
        x.due(5, "heldBy", 0, 0, 0);
        x.send(0, 5, 7, 0, 1);
        x.pass(1);
        x.due(7, "heldBy", 1, 0, 0);
        x.due(0, "heldBy", 1, 0, 1);
        x.due(5, "heldBy", 0, 0, 0);
    }

    private static void outputsAreOfTheRoot() {
        Probe x = new Probe();
        x.hub(0, 1);
        x.hub(1, 1);
        x.unit(2, 1);
        x.unit(0, 1);
        x.set(0, 0, 40);
        x.send(0, 0, 5, 0, 1);
        x.pass(1);
        x.due(1, "hubOf", 2, 10);
        x.due(1, "hubOf", 1, 10);
        x.due(0, "hubOf", 0, 10);
        x.due(0, "count", 4);
        x.due(Check.ABSENT, "outAt", 0, 0);
        x.send(1, 0, 6, 0, 1);
        x.pass(1);
        x.due(1, "hubOf", 0, 10);
        x.due(1, "count", 4);
        x.due(0, "outAt", 0, 0);
    }

    private static void eightAreKept() {
        Probe x = new Probe();
        x.unit(0, 1);
        for (int many = 1; many <= 18; many++) {
            x.send(0, many - 1, 10 * many, many % 2, 1);
            x.pass(1);
            if (many >= 7 && many <= 9 || many >= 16) {
                int kept = Math.min(many, 8);
                Probe y = x.again();
                y.due(kept, "count", 5);
                y.due(many, "count", 4);
                for (int index = 0; index < kept; index++) {
                    y.due(many - 1 - index, "outAt", index, 0);
                    y.due(10 * (many - index), "readingAt", index, 0, 0);
                    y.due((many - index) % 2, "readingAt", index, 0, 1);
                }
                y.due(Check.ABSENT, "outAt", kept, 0);
                y.due(Check.ABSENT, "readingAt", kept, 0, 0);
            }
        }
        // Those of one tick are kept in their order, the last ones of them.
        Probe z = new Probe();
        z.unit(0, 1);
        z.passTo(10);
        for (int stamp = 1; stamp <= 10; stamp++) {
            z.send(0, 11 - stamp, stamp, 0, 1);
        }
        z.pass(1);
        z.due(10, "count", 4);
        z.due(8, "count", 5);
        z.due(10, "outAt", 0, 0);
        z.due(3, "outAt", 7, 0);
        z.due(Check.ABSENT, "outAt", 8, 0);
    }

    private static void delays() {
        int[] delays = {0, 1, 2, 19, 20};
        for (int delay : delays) {
            Probe x = new Probe();
            x.hub(0, 1);
            x.unit(1, 1);
            x.set(1, 3, delay);
            x.set(0, 3, 9);
            x.send(0, 0, 5, 0, 1);
            for (int time = 1; time < 1 + delay; time++) {
                x.pass(1);
                x.due(1, "hubOf", 1, 14);
                x.due(1, "count", 3);
                x.due(0, "count", 4);
            }
            x.pass(1);
            x.due(0, "hubOf", 1, 14);
            x.due(1 + delay, "outAt", 0, 1);
            // A delay that is set when it is on its way comes too late for it.
            Probe y = new Probe();
            y.hub(0, 1);
            y.unit(1, 1);
            y.set(1, 3, delay);
            y.send(0, 0, 5, 0, 1);
            y.pass(1);
            y.set(1, 3, 10);
            y.pass(20);
            y.due(1 + delay, "outAt", 0, 1);
        }
    }
}
