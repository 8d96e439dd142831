/** The sentences of "Terms" and of "The tree". */
final class TreeSentences {
    private TreeSentences() {
    }

    static void tests(Sentences s) {
        s.section("What it is");
        s.noBoundary("Concentrators of measured frames, nested in a tree: units whose readings are stamped",
                "concentrators that gather the frames of one time stamp", "late and double frames that are dropped");
        s.test("An object is used for at most 512 calls after it has been made;", TreeSentences::fiveHundredAndTwelveCalls);
        s.noBoundary("what later calls answer is free.");
        s.section("Terms");
        s.noBoundary("All numbers are whole numbers;");
        s.test("divisions are rounded toward 0.", TreeSentences::divisionsAreRoundedTowardZero);
        s.test("Time is told in ticks, 0 at first.", TreeSentences::timeIsZeroAtFirst);
        s.section("The tree");
        s.test("There are at most 5 hubs (concentrators), numbered from 0;", TreeSentences::fiveHubs);
        s.test("hub 0 is the root, each other one has a hub with a lower number above it.", TreeSentences::lowerNumberAbove);
        s.test("There are at most 10 units, numbered from 0", TreeSentences::tenUnits);
        s.test("each at a hub, until it is taken off for good.", TreeSentences::takenOffForGood);
        s.test("The children of a hub are its units and the hubs right below it.", TreeSentences::children);
        s.test("A hub has a period (1 to 20)", () -> hubHas(4, 1, 20));
        s.test("a wait (0 to 40)", () -> hubHas(0, 0, 40));
        s.test("a rule (0 or 1)", () -> hubHas(1, 0, 1));
        s.test("a filter (0 to 2)", () -> hubHas(2, 0, 2));
        s.test("and a delay (0 to 20) to the hub above it.", () -> hubHas(3, 0, 20));
        s.test("A unit has a period (1 to 20).", TreeSentences::periodOfAUnit);
        s.test("Of the period of a child and that of its hub one must be a multiple of the other one.",
                TreeSentences::periodsGoTogether);
        s.test("A child is quick if its period is not greater than that of its hub, otherwise it is slow.",
                TreeSentences::quickAndSlow);
        s.test("The units of a hub are those of its children, and so on down;", TreeSentences::unitsFarBelow);
        s.test("units that were taken off are none.", TreeSentences::unitsTakenOffAreNone);
    }

    private static void fiveHundredAndTwelveCalls() {
        Probe x = new Probe();
        x.unit(0, 20);
        while (x.callsLeft() > 4) {
            x.pass(1);
        }
        x.due(507, "count", 2);
        x.due(1, "send", 0, 500, 7, 0, 1);
        x.due(508, "pass", 1);
        // The 512th call.
        x.due(7, "readingAt", 0, 0, 0);
        // As many slots as fit, and the 512th call asks for the last of them.
        Probe y = new Probe();
        y.hub(0, 1);
        y.unit(1, 1);
        y.unit(1, 1);
        y.set(1, 0, 40);
        y.set(1, 1, 1);
        for (int i = 0; i < 5; i++) {
            y.pass(100);
        }
        for (int i = 0; y.callsLeft() > 2; i++) {
            if (i % 40 == 39) {
                y.pass(1);
            } else {
                y.send(0, 499 - i, 499 - i, 0, 1);
            }
        }
        Probe w = y.again();
        y.due(513, "pass", 1);
        y.due(499, "slotAt", 1, 487, 0);
        w.due(513, "pass", 1);
        w.due(Check.ABSENT, "slotAt", 1, 488, 0);
        // The history and the text at the 512th call.
        Probe z = new Probe();
        while (z.callsLeft() > 1) {
            z.pass(1);
        }
        z.due(3, "undo");
    }

    private static void divisionsAreRoundedTowardZero() {
        int[][] rows = {{0, 0, 0}, {0, 1, 0}, {1, 1, 1}, {1, 2, 1}, {2, 1, 1}, {0, -1, 0}, {-1, -1, -1}, {-1, -2, -1},
            {-2, -1, -1}, {-2, -2, -2}, {-3, 0, -1}, {3, 0, 1}, {-1, 2, 0}, {1, -2, 0}, {-1, 1, 0}, {100000, 99999, 99999},
            {-100000, -99999, -99999}, {-100000, 99999, 0}};
        for (int[] row : rows) {
            Probe x = new Probe();
            x.set(0, 4, 2);
            x.set(0, 2, 1);
            x.unit(0, 1);
            x.pass(2);
            x.send(0, 1, row[0], 0, 1);
            x.send(0, 2, row[1], 0, 1);
            x.pass(1);
            x.due(row[2], "readingAt", 0, 0, 0);
        }
    }

    private static void timeIsZeroAtFirst() {
        Probe x = new Probe();
        x.due(0, "count", 2);
        x.unit(0, 1);
        // Not after the present time: 0, but not 1.
        x.refuses(Check.IMPOSSIBLE, "send", 0, 1, 0, 0, 1);
        x.due(1, "send", 0, 0, 0, 0, 1);
        x.due(1, "pass", 1);
        x.due(1, "count", 2);
        x.due(2, "pass", 1);
    }

    private static void fiveHubs() {
        Probe x = new Probe();
        x.due(1, "count", 0);
        for (int hub = 1; hub <= 4; hub++) {
            x.due(hub, "hub", 0, 1);
            x.due(hub + 1, "count", 0);
            x.due(1, "hubOf", hub, 4);
            x.due(Check.INVALID, "hubOf", hub + 1, 4);
        }
        x.refuses(Check.LIMIT, "hub", 0, 1);
        x.refuses(Check.LIMIT, "hub", 4, 20);
        x.due(5, "count", 0);
        // There is room again when one was undone.
        x.due(3, "undo");
        x.due(4, "hub", 3, 1);
        x.refuses(Check.LIMIT, "hub", 3, 1);
    }

    private static void lowerNumberAbove() {
        Probe x = new Probe();
        x.due(Check.ABSENT, "hubOf", 0, 5);
        for (int hub = 1; hub <= 4; hub++) {
            x.refuses(Check.INVALID, "hub", hub, 1);
            x.refuses(Check.INVALID, "hub", hub + 1, 1);
            x.due(hub, "hub", hub - 1, 1);
            x.due(hub - 1, "hubOf", hub, 5);
        }
        Probe y = new Probe();
        y.hub(0, 1);
        y.hub(0, 1);
        y.due(3, "hub", 1, 1);
        y.due(1, "hubOf", 3, 5);
        y.due(0, "hubOf", 2, 5);
    }

    private static void tenUnits() {
        Probe x = new Probe();
        x.hub(0, 1);
        x.due(Check.INVALID, "unitOf", 0, 0);
        for (int unit = 0; unit <= 9; unit++) {
            x.due(unit, "unit", unit % 2, 1);
            x.due(unit + 1, "count", 1);
            x.due(unit % 2, "unitOf", unit, 0);
            x.due(Check.INVALID, "unitOf", unit + 1, 0);
        }
        x.refuses(Check.LIMIT, "unit", 0, 1);
        x.refuses(Check.LIMIT, "unit", 1, 20);
        x.due(10, "count", 1);
        x.due(3, "undo");
        x.due(9, "unit", 0, 1);
        x.refuses(Check.LIMIT, "unit", 0, 1);
    }

    private static void takenOffForGood() {
        Probe x = new Probe();
        x.unit(0, 1);
        x.unit(0, 1);
        x.due(0, "unitOf", 0, 2);
        x.due(1, "takeOff", 0);
        x.due(1, "unitOf", 0, 2);
        x.due(0, "unitOf", 0, 0);
        x.refuses(Check.IMPOSSIBLE, "takeOff", 0);
        // Its number is not given to another one.
        x.due(2, "unit", 0, 1);
        x.pass(100);
        x.due(1, "unitOf", 0, 2);
        x.refuses(Check.IMPOSSIBLE, "send", 0, 0, 0, 0, 1);
        for (int unit = 3; unit <= 9; unit++) {
            x.due(unit, "unit", 0, 1);
        }
        x.refuses(Check.LIMIT, "unit", 0, 1);
        for (int unit = 1; unit <= 9; unit++) {
            x.due(9 - unit, "takeOff", unit);
        }
        x.due(0, "count", 1);
        x.refuses(Check.LIMIT, "unit", 0, 1);
    }

    private static void children() {
        Probe x = new Probe();
        x.due(0, "hubOf", 0, 7);
        x.hub(0, 1);
        x.due(1, "hubOf", 0, 7);
        x.due(0, "hubOf", 1, 7);
        // A hub and a unit further below are no children of the root.
        x.hub(1, 1);
        x.unit(1, 1);
        x.unit(2, 1);
        x.due(1, "hubOf", 0, 7);
        x.due(2, "hubOf", 1, 7);
        x.due(1, "hubOf", 2, 7);
        x.unit(0, 1);
        x.due(2, "hubOf", 0, 7);
        x.takeOff(2);
        x.due(1, "hubOf", 0, 7);
        // All hubs and all units are children of one.
        Probe y = new Probe();
        for (int i = 1; i <= 4; i++) {
            y.hub(0, 1);
        }
        for (int i = 1; i <= 10; i++) {
            y.unit(0, 1);
            y.due(4 + i, "hubOf", 0, 7);
        }
        y.due(0, "hubOf", 4, 7);
    }

    private static void hubHas(int what, int least, int most) {
        for (int hub = 0; hub <= 1; hub++) {
            for (int value = least - 1; value <= most + 1; value++) {
                Probe x = new Probe();
                x.hub(0, 1);
                x.unit(1, 1);
                if (value < least || value > most) {
                    x.refuses(Check.INVALID, "set", hub, what, value);
                    x.due(least, "hubOf", hub, what);
                } else {
                    x.due(least, "set", hub, what, value);
                    x.due(value, "hubOf", hub, what);
                    x.due(least, "hubOf", 1 - hub, what);
                }
            }
        }
    }

    private static void periodOfAUnit() {
        for (int period = 0; period <= 21; period++) {
            Probe x = new Probe();
            if (period < 1 || period > 20) {
                x.refuses(Check.INVALID, "unit", 0, period);
            } else {
                x.due(0, "unit", 0, period);
                x.due(period, "unitOf", 0, 1);
            }
        }
    }

    private static void periodsGoTogether() {
        for (int above = 1; above <= 20; above++) {
            for (int below = 1; below <= 20; below++) {
                boolean may = above % below == 0 || below % above == 0;
                Probe x = new Probe();
                x.due(1, "set", 0, 4, above);
                x.due(may ? 1 : Check.IMPOSSIBLE, "hub", 0, below);
                x.due(may ? 0 : Check.IMPOSSIBLE, "unit", 0, below);
                // By set, from a period that goes with all.
                Probe y = new Probe();
                y.unit(0, above);
                y.due(may ? 1 : Check.IMPOSSIBLE, "set", 0, 4, below);
                Probe z = new Probe();
                z.set(0, 4, above);
                z.hub(0, 1);
                z.due(may ? 1 : Check.IMPOSSIBLE, "set", 1, 4, below);
            }
        }
        Probe x = new Probe();
        x.set(0, 4, 6);
        x.refuses(Check.IMPOSSIBLE, "hub", 0, 4);
        x.refuses(Check.IMPOSSIBLE, "unit", 0, 4);
        x.unit(0, 3);
        x.refuses(Check.IMPOSSIBLE, "set", 0, 4, 4);
    }

    /** How many frames the slot of a hub of the period 6 expects of a child of this period, and of two more of 6. */
    private static int expected(int period, int slot) {
        Probe x = new Probe();
        x.set(0, 4, 6);
        x.unit(0, 6);
        x.unit(0, 6);
        x.unit(0, period);
        x.set(0, 1, 1);
        x.set(0, 0, 40);
        x.pass(36);
        x.send(0, slot, 0, 0, 1);
        x.pass(1);
        return x.slotAt(0, 0, 3);
    }

    private static void quickAndSlow() {
        int[][] rows = {{1, 6, 6, 6}, {2, 3, 3, 3}, {3, 2, 2, 2}, {6, 1, 1, 1}, {12, 0, 1, 0}, {18, 0, 0, 1}};
        for (int[] row : rows) {
            for (int i = 1; i <= 3; i++) {
                Check.due("slot " + 6 * i + " expects of a child of " + row[0], expected(row[0], 6 * i), 2 + row[i]);
            }
        }
        // A slow one is held between its stamps, one of the same period is not.
        for (int period = 6; period <= 12; period += 6) {
            Probe x = new Probe();
            x.set(0, 4, 6);
            x.unit(0, 6);
            x.unit(0, period);
            x.pass(18);
            x.send(0, 12, 1, 0, 1);
            x.send(1, 12, 2, 0, 1);
            x.pass(1);
            x.due(2, "readingAt", 0, 1, 0);
            x.send(0, 18, 3, 0, 1);
            x.pass(1);
            x.due(period == 6 ? Check.ABSENT : 2, "readingAt", 0, 1, 0);
        }
    }

    private static void unitsFarBelow() {
        Probe x = new Probe();
        x.due(0, "hubOf", 0, 8);
        for (int hub = 1; hub <= 4; hub++) {
            x.hub(hub - 1, 1);
            x.due(0, "hubOf", hub, 8);
        }
        x.unit(4, 1);
        for (int hub = 0; hub <= 4; hub++) {
            x.due(1, "hubOf", hub, 8);
            x.due(0, "unitAt", hub, 0);
        }
        x.unit(2, 1);
        int[] units = {2, 2, 2, 1, 1};
        for (int hub = 0; hub <= 4; hub++) {
            x.due(units[hub], "hubOf", hub, 8);
            x.due(units[hub] == 2 ? 1 : Check.ABSENT, "unitAt", hub, 1);
        }
        // One beside has none of them.
        Probe y = new Probe();
        y.hub(0, 1);
        y.hub(0, 1);
        y.unit(1, 1);
        y.due(0, "hubOf", 2, 8);
        y.due(Check.ABSENT, "unitAt", 2, 0);
        for (int unit = 1; unit <= 9; unit++) {
            y.unit(2, 1);
        }
        y.due(9, "hubOf", 2, 8);
        y.due(10, "hubOf", 0, 8);
    }

    private static void unitsTakenOffAreNone() {
        Probe x = new Probe();
        x.hub(0, 1);
        x.unit(1, 1);
        x.unit(1, 1);
        x.takeOff(0);
        x.due(1, "hubOf", 0, 8);
        x.due(1, "hubOf", 1, 8);
        x.due(1, "unitAt", 1, 0);
        x.due(Check.ABSENT, "unitAt", 1, 1);
        x.takeOff(1);
        x.due(0, "hubOf", 0, 8);
        x.due(0, "hubOf", 1, 8);
        x.due(Check.ABSENT, "unitAt", 0, 0);
    }
}
