/** The sentences of "Frames". */
final class FramesSentences {
    private FramesSentences() {
    }

    static void tests(Sentences s) {
        s.section("Frames");
        s.test("A reading is a value (-100000 to 100000)", FramesSentences::values);
        s.test("and flags (a set of bits).", FramesSentences::setsOfBits);
        s.test("A frame has a stamp and, for some units, a reading each.", FramesSentences::someUnits);
        s.test("A unit sends a frame with its own reading alone;", FramesSentences::itsOwnAlone);
        s.test("the flags of a sent reading are 0 to 15:", FramesSentences::flagsOfASentReading);
        s.test("1 it is not valid, 2 it is a test, 4 the clock was not locked, 8 it is simulated.",
                FramesSentences::onlyNotValidIsLeftOut);
        s.test("The stamp is a multiple of the period of the unit", FramesSentences::multipleOfThePeriod);
        s.test("and not after the present time.", FramesSentences::notAfterThePresentTime);
        s.test("It is on its way for some ticks.", FramesSentences::someTicks);
    }

    private static Probe oneUnit() {
        Probe x = new Probe();
        x.unit(0, 1);
        return x;
    }

    private static void values() {
        int[] values = {-100001, -100000, -99999, -1, 0, 1, 99999, 100000, 100001};
        for (int value : values) {
            Probe x = oneUnit();
            if (Math.abs(value) > 100000) {
                x.refuses(Check.INVALID, "send", 0, 0, value, 0, 1);
            } else {
                x.due(1, "send", 0, 0, value, 0, 1);
                x.pass(1);
                x.due(value, "readingAt", 0, 0, 0);
                x.due(value, "heldBy", 0, 0, 0);
            }
        }
    }

    private static void setsOfBits() {
        // None, each alone, all.
        int[] sets = {0, 1, 2, 4, 8, 15};
        for (int set : sets) {
            Probe x = oneUnit();
            x.send(0, 0, 5, set, 1);
            x.pass(1);
            x.due(set, "readingAt", 0, 0, 1);
            x.due(set, "outAt", 0, 2);
        }
    }

    private static void someUnits() {
        // A frame of none: hub 1 has a unit whose reading is missing, and then no unit at all.
        Probe x = new Probe();
        x.set(0, 4, 4);
        x.hub(0, 4);
        x.unit(1, 1);
        x.pass(4);
        x.send(0, 3, 7, 0, 1);
        x.pass(1);
        x.due(4, "hubOf", 1, 13);
        x.due(4, "outAt", 0, 0);
        x.due(0, "outAt", 0, 3);
        x.due(1, "outAt", 0, 4);
        // A frame of all ten.
        Probe y = new Probe();
        y.hub(0, 1);
        for (int unit = 0; unit < 10; unit++) {
            y.unit(1, 1);
            y.send(unit, 0, unit, 0, 1);
        }
        y.pass(1);
        y.due(10, "outAt", 0, 3);
        y.due(0, "readingAt", 0, 0, 0);
        y.due(9, "readingAt", 0, 9, 0);
    }

    private static void itsOwnAlone() {
        Probe x = new Probe();
        x.unit(0, 1);
        x.unit(0, 1);
        x.send(0, 0, 5, 0, 1);
        x.pass(1);
        x.due(1, "outAt", 0, 3);
        x.due(5, "readingAt", 0, 0, 0);
        x.due(Check.ABSENT, "readingAt", 0, 1, 0);
    }

    private static void flagsOfASentReading() {
        for (int flags = -1; flags <= 16; flags++) {
            Probe x = oneUnit();
            if (flags < 0 || flags > 15) {
                x.refuses(Check.INVALID, "send", 0, 0, 0, flags, 1);
            } else {
                x.due(1, "send", 0, 0, 0, flags, 1);
                x.pass(1);
                x.due(flags, "readingAt", 0, 0, 1);
            }
        }
        oneUnit().refuses(Check.INVALID, "send", 0, 0, 0, 32, 1);
    }

    private static void onlyNotValidIsLeftOut() {
        for (int flags = 1; flags <= 8; flags *= 2) {
            Probe x = new Probe();
            x.set(0, 4, 2);
            x.set(0, 2, 1);
            x.unit(0, 1);
            x.pass(2);
            x.send(0, 1, 30, flags, 1);
            x.send(0, 2, 10, 0, 1);
            x.pass(1);
            x.due(flags == 1 ? 10 : 20, "readingAt", 0, 0, 0);
            x.due(flags == 1 ? 64 + 32 : 64 + flags, "readingAt", 0, 0, 1);
        }
    }

    private static void multipleOfThePeriod() {
        Probe x = new Probe();
        x.unit(0, 3);
        x.unit(0, 20);
        x.pass(50);
        for (int stamp = 0; stamp <= 50; stamp++) {
            Probe y = x.again();
            y.due(stamp % 3 == 0 ? 1 : Check.IMPOSSIBLE, "send", 0, stamp, 0, 0, 1);
            y = x.again();
            y.due(stamp % 20 == 0 ? 1 : Check.IMPOSSIBLE, "send", 1, stamp, 0, 0, 1);
        }
        x.refuses(Check.IMPOSSIBLE, "send", 0, 5, 0, 0, 1);
        x.refuses(Check.IMPOSSIBLE, "send", 0, 7, 0, 0, 1);
        x.refuses(Check.IMPOSSIBLE, "send", 1, 19, 0, 0, 1);
        x.refuses(Check.IMPOSSIBLE, "send", 1, 21, 0, 0, 1);
    }

    private static void notAfterThePresentTime() {
        Probe x = new Probe();
        x.unit(0, 1);
        x.unit(0, 4);
        x.pass(7);
        x.due(1, "send", 0, 6, 0, 0, 1);
        x.due(2, "send", 0, 7, 0, 0, 1);
        x.refuses(Check.IMPOSSIBLE, "send", 0, 8, 0, 0, 1);
        x.refuses(Check.IMPOSSIBLE, "send", 1, 8, 0, 0, 1);
        x.refuses(Check.IMPOSSIBLE, "send", 1, 20000, 0, 0, 1);
        x.due(3, "send", 1, 4, 0, 0, 1);
        x.pass(1);
        x.due(1, "send", 1, 8, 0, 0, 1);
        x.refuses(Check.IMPOSSIBLE, "send", 1, 12, 0, 0, 1);
        x.refuses(Check.IMPOSSIBLE, "send", 0, 9, 0, 0, 1);
    }

    private static void someTicks() {
        int[] rows = {0, 1, 2, 59, 60, 61};
        for (int ticks : rows) {
            Probe x = oneUnit();
            if (ticks < 1 || ticks > 60) {
                x.refuses(Check.INVALID, "send", 0, 0, 5, 0, ticks);
                continue;
            }
            x.send(0, 0, 5, 0, ticks);
            if (ticks > 1) {
                x.pass(ticks - 1);
            }
            x.due(1, "count", 3);
            x.due(0, "count", 4);
            x.pass(1);
            x.due(0, "count", 3);
            x.due(ticks, "outAt", 0, 1);
        }
    }
}
