/** The sentences of the promises 1 to 8. */
final class TreePromises {
    private static final int[] FAR_OFF = {Integer.MIN_VALUE, -1000001, Integer.MAX_VALUE};

    private TreePromises() {
    }

    static void tests(Sentences s) {
        newObject(s);
        hub(s);
        unit(s);
        takeOff(s);
        set(s);
        hubOf(s);
        unitOf(s);
        unitAt(s);
    }

    /** The call is refused as INVALID_ARGUMENT with each of these values, and with some far off, in this place. */
    static void outOfRange(Probe x, String name, int[] arguments, int place, int... values) {
        for (int i = 0; i < values.length + FAR_OFF.length; i++) {
            int[] some = arguments.clone();
            some[place] = i < values.length ? values[i] : FAR_OFF[i - values.length];
            x.refuses(Check.INVALID, name, some);
        }
    }

    private static void newObject(Sentences s) {
        s.section("Promise 1: A new object");
        s.test("Creates a tree that has the root alone: its period is 1, its wait 0, its rule 0, its filter 0.", () -> {
            Probe x = new Probe();
            int[] root = {0, 0, 0, 0, 1, Check.ABSENT, 0, 0, 0, 0, 0, 0, 0, Check.ABSENT, 0};
            for (int what = 0; what <= 14; what++) {
                x.due(root[what], "hubOf", 0, what);
            }
            int[] counts = {1, 0, 0, 0, 0, 0, 0, 0, Check.ABSENT, 0, 0};
            for (int what = 0; what <= 10; what++) {
                x.due(counts[what], "count", what);
            }
            x.due(Check.INVALID, "hubOf", 1, 0);
            x.due(Check.INVALID, "unitOf", 0, 0);
            x.due(Check.ABSENT, "slotAt", 0, 0, 0);
            x.due(Check.ABSENT, "outAt", 0, 0);
            x.due(Check.IMPOSSIBLE, "undo");
            x.due(Check.ABSENT, "nextOut");
            x.due(Check.ABSENT, "foresee", 200);
            x.due(Check.ABSENT, "fault", 0);
        });
    }

    private static void hub(Sentences s) {
        s.section("Promise 2: hub");
        s.test("Adds a hub;", () -> {
            Probe x = new Probe();
            x.due(1, "hub", 0, 1);
            x.due(2, "count", 0);
            x.due(1, "hubOf", 0, 7);
            x.due(0, "hubOf", 0, 8);
            // Also when hubs have slots and have released frames: then these expect one more.
            Probe y = new Probe();
            y.unit(0, 1);
            y.unit(0, 1);
            y.send(0, 0, 0, 0, 1);
            y.pass(1);
            y.set(0, 0, 40);
            y.send(0, 1, 0, 0, 1);
            y.pass(1);
            y.due(2, "slotAt", 0, 0, 3);
            y.due(1, "hub", 0, 1);
            y.due(3, "slotAt", 0, 0, 3);
            y.due(0, "hubOf", 1, 9);
        });
        s.test("its wait, rule, filter and delay are 0.", () -> {
            Probe x = new Probe();
            for (int what = 0; what <= 3; what++) {
                x.set(0, what, 1);
            }
            x.hub(0, 1);
            for (int what = 0; what <= 3; what++) {
                x.set(1, what, 2 - what % 2);
            }
            x.hub(1, 1);
            for (int what = 0; what <= 3; what++) {
                x.due(0, "hubOf", 2, what);
            }
            // Nor does it have anything of one with its number that was undone.
            x.set(2, 0, 40);
            x.undo();
            x.undo();
            x.due(2, "hub", 0, 1);
            x.due(0, "hubOf", 2, 0);
            x.due(1, "hubOf", 2, 6);
        });
        s.test("- `above`: number of the hub above it", () -> {
            Probe x = new Probe();
            outOfRange(x, "hub", new int[] {0, 1}, 0, -1, 1, 2);
            x.hub(0, 1);
            outOfRange(x, "hub", new int[] {0, 1}, 0, -1, 2);
            x.due(2, "hub", 1, 1);
            x.due(1, "hubOf", 2, 5);
        });
        s.test("- `period`: 1 to 20", () -> {
            for (int period : new int[] {1, 2, 19, 20}) {
                Probe x = new Probe();
                x.due(1, "hub", 0, period);
                x.due(period, "hubOf", 1, 4);
            }
            outOfRange(new Probe(), "hub", new int[] {0, 1}, 1, -1, 0, 21, 22);
        });
        s.test("Returns its number;", () -> {
            Probe x = new Probe();
            for (int hub = 1; hub <= 4; hub++) {
                x.due(hub, "hub", 0, 1);
            }
            x.undo();
            x.undo();
            x.due(3, "hub", 0, 1);
        });
        s.test("INVALID_ARGUMENT if an argument is out of range;", () -> {
            Probe x = new Probe();
            x.refuses(Check.INVALID, "hub", 1, 0);
            x.refuses(Check.INVALID, "hub", 0, 0);
            x.refuses(Check.INVALID, "hub", 1, 1);
            x.due(1, "hub", 0, 1);
        });
        s.test("NOT_POSSIBLE if neither period is a multiple of the other one;", () -> {
            Probe x = new Probe();
            x.set(0, 4, 6);
            for (int period : new int[] {4, 5, 7, 8, 9, 10, 11, 13, 14, 15, 16, 17, 19, 20}) {
                x.due(Check.IMPOSSIBLE, "hub", 0, period);
            }
            x.refuses(Check.IMPOSSIBLE, "hub", 0, 9);
            x.due(1, "hub", 0, 3);
            // It is the hub above that counts, not the root.
            x.refuses(Check.IMPOSSIBLE, "hub", 1, 2);
            x.due(2, "hub", 1, 9);
            x.due(3, "hub", 0, 12);
            x.due(4, "hub", 0, 6);
        });
        s.test("LIMIT_REACHED if there are 5.", () -> {
            Probe x = new Probe();
            for (int hub = 1; hub <= 4; hub++) {
                x.due(hub, "hub", hub - 1, 2);
            }
            x.refuses(Check.LIMIT, "hub", 4, 2);
            x.refuses(Check.LIMIT, "hub", 0, 1);
            x.refuses(Check.INVALID, "hub", 5, 1);
            x.refuses(Check.IMPOSSIBLE, "hub", 1, 3);
        });
    }

    private static void unit(Sentences s) {
        s.section("Promise 3: unit");
        s.test("Adds a unit.", () -> {
            Probe x = new Probe();
            x.hub(0, 2);
            x.due(0, "unit", 1, 4);
            int[] facts = {1, 4, 0, 0, 0, 0, 2};
            for (int what = 0; what <= 6; what++) {
                x.due(facts[what], "unitOf", 0, what);
            }
            x.due(1, "count", 1);
            // A slot that is there expects one more frame; what was released has none missing.
            Probe y = new Probe();
            y.unit(0, 1);
            y.send(0, 0, 0, 0, 1);
            y.pass(1);
            y.set(0, 0, 40);
            y.unit(0, 1);
            y.send(0, 1, 0, 0, 1);
            y.pass(1);
            y.unit(0, 1);
            y.due(3, "slotAt", 0, 0, 3);
            y.due(0, "outAt", 0, 4);
        });
        s.test("- `hub`: number of the hub", () -> {
            Probe x = new Probe();
            outOfRange(x, "unit", new int[] {0, 1}, 0, -1, 1);
            x.hub(0, 1);
            outOfRange(x, "unit", new int[] {0, 1}, 0, -1, 2);
            x.due(0, "unit", 1, 1);
            x.due(1, "unitOf", 0, 0);
        });
        s.test("- `period`: 1 to 20", () -> {
            for (int period : new int[] {1, 2, 19, 20}) {
                Probe x = new Probe();
                x.due(0, "unit", 0, period);
                x.due(period, "unitOf", 0, 1);
            }
            outOfRange(new Probe(), "unit", new int[] {0, 1}, 1, -1, 0, 21, 22);
        });
        s.test("Returns its number;", () -> {
            Probe x = new Probe();
            x.due(0, "unit", 0, 1);
            x.due(1, "unit", 0, 1);
            x.takeOff(1);
            x.due(2, "unit", 0, 1);
            x.undo();
            x.due(2, "unit", 0, 1);
        });
        s.test("INVALID_ARGUMENT if an argument is out of range;", () -> {
            Probe x = new Probe();
            x.refuses(Check.INVALID, "unit", 1, 21);
            x.refuses(Check.INVALID, "unit", 0, 21);
            x.refuses(Check.INVALID, "unit", 1, 20);
            x.due(0, "unit", 0, 20);
        });
        s.test("NOT_POSSIBLE if neither period is a multiple of the other one;", () -> {
            Probe x = new Probe();
            x.hub(0, 6);
            for (int period : new int[] {4, 5, 7, 8, 9, 10, 11, 13, 14, 15, 16, 17, 19, 20}) {
                x.due(Check.IMPOSSIBLE, "unit", 1, period);
            }
            x.refuses(Check.IMPOSSIBLE, "unit", 1, 9);
            int unit = 0;
            for (int period : new int[] {1, 2, 3, 6, 12, 18}) {
                x.due(unit++, "unit", 1, period);
            }
            x.due(unit, "unit", 0, 9);
        });
        s.test("LIMIT_REACHED if 10 have been added so far.", () -> {
            Probe x = new Probe();
            for (int unit = 0; unit <= 8; unit++) {
                x.due(unit, "unit", 0, 1);
            }
            x.due(8, "takeOff", 4);
            x.due(9, "unit", 0, 1);
            x.refuses(Check.LIMIT, "unit", 0, 1);
            x.due(8, "takeOff", 9);
            x.refuses(Check.LIMIT, "unit", 0, 1);
            // One that was undone has not been added.
            x.undo();
            x.undo();
            x.due(9, "unit", 0, 1);
            x.refuses(Check.LIMIT, "unit", 0, 1);
        });
    }

    private static void takeOff(Sentences s) {
        s.section("Promise 4: takeOff");
        s.test("Takes a unit off for good.", () -> {
            Probe x = new Probe();
            x.unit(0, 1);
            x.unit(0, 1);
            x.due(1, "takeOff", 0);
            x.due(1, "unitOf", 0, 2);
            x.due(0, "unitOf", 1, 2);
            x.refuses(Check.IMPOSSIBLE, "takeOff", 0);
            x.refuses(Check.IMPOSSIBLE, "send", 0, 0, 0, 0, 1);
            x.due(1, "send", 1, 0, 0, 0, 1);
        });
        s.test("- `unit`: number of the unit", () -> {
            Probe x = new Probe();
            outOfRange(x, "takeOff", new int[] {0}, 0, -1, 0, 1);
            x.unit(0, 1);
            outOfRange(x, "takeOff", new int[] {0}, 0, -1, 1);
            x.due(0, "takeOff", 0);
        });
        s.test("Returns how many units are left in all;", () -> {
            Probe x = new Probe();
            x.hub(0, 1);
            for (int unit = 0; unit < 10; unit++) {
                x.unit(unit % 2, 1);
            }
            for (int unit = 0; unit < 10; unit++) {
                x.due(9 - unit, "takeOff", unit);
                x.due(9 - unit, "count", 1);
            }
        });
        s.test("INVALID_ARGUMENT;", () -> {
            Probe x = new Probe();
            x.unit(0, 1);
            x.refuses(Check.INVALID, "takeOff", 1);
            x.takeOff(0);
            x.refuses(Check.INVALID, "takeOff", 1);
        });
        s.test("NOT_POSSIBLE if it was taken off before.", () -> {
            Probe x = new Probe();
            x.unit(0, 1);
            x.due(0, "takeOff", 0);
            x.refuses(Check.IMPOSSIBLE, "takeOff", 0);
            x.undo();
            x.due(0, "takeOff", 0);
            x.undo();
            // Taken off by an order.
            Check.text(x, "x0;");
            x.play();
            x.refuses(Check.IMPOSSIBLE, "takeOff", 0);
        });
    }

    private static void set(Sentences s) {
        s.section("Promise 5: set");
        s.test("Sets something of a hub;", () -> {
            int[] values = {7, 1, 2, 9, 3};
            for (int what = 0; what <= 4; what++) {
                Probe x = new Probe();
                x.hub(0, 6);
                x.due(what == 4 ? 6 : 0, "set", 1, what, values[what]);
                int[] facts = {0, 0, 0, 0, 6};
                facts[what] = values[what];
                for (int other = 0; other <= 4; other++) {
                    x.due(facts[other], "hubOf", 1, other);
                    x.due(other == 4 ? 1 : 0, "hubOf", 0, other);
                }
            }
        });
        s.test("what it holds already stays.", TreePromises::whatItHoldsStays);
        s.test("- `hub`: number of the hub", () -> {
            Probe x = new Probe();
            x.hub(0, 1);
            outOfRange(x, "set", new int[] {0, 0, 0}, 0, -1, 2);
            outOfRange(x, "set", new int[] {0, 4, 1}, 0, -1, 2);
            x.due(0, "set", 1, 0, 0);
        });
        s.test("- `what`: 0: the wait;", () -> settingRange(0, 0, 40));
        s.test("1: the rule;", () -> settingRange(1, 0, 1));
        s.test("2: the filter;", () -> settingRange(2, 0, 2));
        s.test("3: the delay;", () -> settingRange(3, 0, 20));
        s.test("4: the period", () -> {
            settingRange(4, 1, 20);
            outOfRange(new Probe(), "set", new int[] {0, 0, 1}, 1, -1, 5, 6);
        });
        s.test("- `value`: 0 to 40;", () -> outOfRange(new Probe(), "set", new int[] {0, 0, 0}, 2, -1, 41, 42));
        s.test("0 or 1;", () -> outOfRange(new Probe(), "set", new int[] {0, 1, 0}, 2, -1, 2, 3));
        s.test("0 to 2;", () -> outOfRange(new Probe(), "set", new int[] {0, 2, 0}, 2, -1, 3, 4));
        s.test("0 to 20;", () -> outOfRange(new Probe(), "set", new int[] {0, 3, 0}, 2, -1, 21, 22));
        s.test("1 to 20", () -> outOfRange(new Probe(), "set", new int[] {0, 4, 0}, 2, -1, 0, 21, 22));
        s.test("Returns what it was;", () -> {
            Probe x = new Probe();
            int[][] rows = {{0, 0, 40, 40, 1}, {1, 0, 1, 1, 0}, {2, 0, 2, 2, 1}, {3, 0, 20, 20, 1}, {4, 1, 20, 20, 7}};
            for (int[] row : rows) {
                for (int i = 2; i < row.length; i++) {
                    x.due(row[i - 1], "set", 0, row[0], row[i]);
                }
            }
        });
        s.test("INVALID_ARGUMENT if an argument is out of range;", () -> {
            Probe x = new Probe();
            x.refuses(Check.INVALID, "set", 1, 0, 0);
            x.refuses(Check.INVALID, "set", 0, 5, 0);
            x.refuses(Check.INVALID, "set", 0, 0, 41);
            x.refuses(Check.INVALID, "set", 1, 5, 41);
            // The range is that of what is set.
            x.due(0, "set", 0, 0, 21);
            x.refuses(Check.INVALID, "set", 0, 3, 21);
            x.refuses(Check.INVALID, "set", 0, 4, 21);
            x.refuses(Check.INVALID, "set", 0, 1, 2);
            x.due(0, "set", 0, 2, 2);
        });
        s.test("NOT_POSSIBLE for the period if it does not go with that of each child", TreePromises::periodOfEachChild);
        s.test("and of the hub above", TreePromises::periodOfTheHubAbove);
        s.test("or if the hub or the one above it has a slot", TreePromises::periodWhereASlotIs);
        s.test("or has released a frame.", TreePromises::periodWhereOneWasReleased);
    }

    private static void settingRange(int what, int least, int most) {
        for (int value = least; value <= most; value++) {
            Probe x = new Probe();
            x.hub(0, 1);
            x.due(least, "set", 1, what, value);
            x.due(value, "hubOf", 1, what);
            x.due(value, "set", 1, what, least);
            x.due(least, "hubOf", 1, what);
        }
    }

    private static void whatItHoldsStays() {
        // The slot stays with its frames, however the wait, the rule and the filter become.
        Probe x = new Probe();
        x.set(0, 4, 2);
        x.unit(0, 1);
        x.unit(0, 2);
        x.set(0, 0, 40);
        x.pass(2);
        x.send(0, 1, 10, 0, 1);
        x.send(0, 2, 20, 0, 1);
        x.pass(1);
        x.set(0, 0, 0);
        x.set(0, 1, 1);
        x.set(0, 2, 1);
        x.due(1, "hubOf", 0, 9);
        x.due(2, "slotAt", 0, 0, 2);
        x.due(3, "slotAt", 0, 0, 1);
        x.due(0, "count", 4);
        x.pass(1);
        x.due(15, "readingAt", 0, 0, 0);
        // What it remembers stays, and what it has counted.
        x.set(0, 2, 0);
        x.set(0, 1, 0);
        x.due(15, "heldBy", 0, 0, 0);
        x.due(64, "heldBy", 0, 0, 1);
        x.due(1, "hubOf", 0, 10);
        x.due(2, "hubOf", 0, 13);
        // The frame on its way comes when it was to come.
        Probe y = new Probe();
        y.hub(0, 1);
        y.unit(1, 1);
        y.set(1, 3, 10);
        y.send(0, 0, 0, 0, 1);
        y.pass(1);
        y.set(1, 3, 0);
        y.due(1, "hubOf", 1, 14);
        y.due(10, "nextOut");
        y.send(0, 1, 0, 0, 1);
        y.pass(1);
        // The next one goes by the new delay, and overtakes it: then that is late.
        y.due(1, "outAt", 0, 0);
        y.due(2, "outAt", 0, 1);
        y.pass(9);
        y.due(1, "hubOf", 0, 11);
    }

    private static void periodOfEachChild() {
        Probe x = new Probe();
        x.due(1, "set", 0, 4, 12);
        x.hub(0, 6);
        x.unit(0, 4);
        // It goes with the hub alone, with the unit alone, with both, with none.
        x.refuses(Check.IMPOSSIBLE, "set", 0, 4, 18);
        x.refuses(Check.IMPOSSIBLE, "set", 0, 4, 8);
        x.refuses(Check.IMPOSSIBLE, "set", 0, 4, 5);
        x.due(12, "set", 0, 4, 2);
        x.due(2, "set", 0, 4, 1);
        x.due(1, "set", 0, 4, 12);
        // A unit that was taken off is no child.
        x.takeOff(0);
        x.due(12, "set", 0, 4, 18);
        // Those further below do not count.
        Probe y = new Probe();
        y.hub(0, 6);
        y.unit(1, 3);
        y.hub(1, 2);
        y.due(1, "set", 0, 4, 12);
        y.due(12, "set", 0, 4, 18);
        y.refuses(Check.IMPOSSIBLE, "set", 0, 4, 20);
        // Without a child it may be any.
        for (int period = 1; period <= 20; period++) {
            new Probe().due(1, "set", 0, 4, period);
        }
    }

    private static void periodOfTheHubAbove() {
        Probe x = new Probe();
        x.set(0, 4, 6);
        x.hub(0, 6);
        x.refuses(Check.IMPOSSIBLE, "set", 1, 4, 4);
        x.refuses(Check.IMPOSSIBLE, "set", 1, 4, 5);
        x.refuses(Check.IMPOSSIBLE, "set", 1, 4, 7);
        x.refuses(Check.IMPOSSIBLE, "set", 1, 4, 20);
        for (int period : new int[] {1, 2, 3, 6, 12, 18}) {
            x.again().due(6, "set", 1, 4, period);
        }
        // Not the root's, if that is further above.
        x.hub(1, 3);
        x.due(6, "set", 1, 4, 12);
        x.due(3, "set", 2, 4, 4);
    }

    /** Five hubs: 1 below the root, 2 and 3 below 1, 4 below 2; hub 2 has two units, and a frame of one comes to it. */
    private static Probe frameAtHubTwo(int wait, int delay) {
        Probe x = new Probe();
        x.hub(0, 1);
        x.hub(1, 1);
        x.hub(1, 1);
        x.hub(2, 1);
        x.unit(2, 1);
        x.unit(2, 1);
        x.set(1, 0, 40);
        x.set(2, 0, wait);
        x.set(2, 3, delay);
        x.send(0, 0, 0, 0, 1);
        return x;
    }

    private static void periodsThatMay(Probe x, boolean... may) {
        for (int hub = 0; hub < may.length; hub++) {
            // Also to the period that it has.
            for (int period = 1; period <= 2; period++) {
                if (may[hub]) {
                    x.again().due(1, "set", hub, 4, period);
                } else {
                    x.again().refuses(Check.IMPOSSIBLE, "set", hub, 4, period);
                }
            }
        }
    }

    private static void periodWhereASlotIs() {
        Probe x = frameAtHubTwo(40, 0);
        // On its way it is in no slot.
        periodsThatMay(x, true, true, true, true, true);
        x.pass(1);
        x.due(1, "hubOf", 2, 9);
        // Hub 2 has a slot: not its own period, and not that of hub 4 below it.
        periodsThatMay(x, true, true, false, true, false);
        // What can be set of it all the same.
        x.due(0, "set", 2, 1, 1);
        x.due(40, "set", 2, 0, 39);
    }

    private static void periodWhereOneWasReleased() {
        Probe x = frameAtHubTwo(0, 5);
        x.pass(1);
        x.due(0, "hubOf", 2, 9);
        x.due(1, "hubOf", 2, 10);
        periodsThatMay(x, true, true, false, true, false);
        // It comes to hub 1, which has a slot then.
        x.pass(5);
        x.due(1, "hubOf", 1, 9);
        periodsThatMay(x, true, false, false, false, false);
        // The root has released it.
        x.set(1, 0, 0);
        x.pass(1);
        x.due(1, "count", 4);
        x.due(0, "hubOf", 1, 9);
        periodsThatMay(x, false, false, false, false, false);
        // After undo they may be set again.
        x.undo();
        x.undo();
        x.undo();
        periodsThatMay(x, true, true, false, true, false);
    }

    private static void hubOf(Sentences s) {
        s.section("Promise 6: hubOf");
        s.test("Returns something of a hub.", () -> {
            Probe x = StatesTest.busy();
            for (int hub = 0; hub <= 3; hub++) {
                for (int what = 0; what <= 14; what++) {
                    x.changesNothing("hubOf", hub, what);
                }
            }
            x.due(6, "hubOf", 0, 0);
        });
        s.test("- `hub`: number of the hub", () -> {
            Probe x = new Probe();
            outOfRange(x, "hubOf", new int[] {0, 4}, 0, -1, 1);
            for (int hub = 1; hub <= 4; hub++) {
                x.hub(0, hub);
            }
            x.due(4, "hubOf", 4, 4);
            outOfRange(x, "hubOf", new int[] {0, 4}, 0, -1, 5);
        });
        s.test("- `what`: 0: the wait;", () -> hubFact(0, 40));
        s.test("1: the rule;", () -> hubFact(1, 1));
        s.test("2: the filter;", () -> hubFact(2, 2));
        s.test("3: the delay;", () -> hubFact(3, 20));
        s.test("4: the period;", () -> hubFact(4, 20));
        s.test("5: the hub above;", () -> {
            Probe x = chain();
            x.due(Check.ABSENT, "hubOf", 0, 5);
            for (int hub = 1; hub <= 4; hub++) {
                x.due(hub - 1, "hubOf", hub, 5);
            }
        });
        s.test("6: its depth, 0 for the root;", () -> {
            Probe x = chain();
            for (int hub = 0; hub <= 4; hub++) {
                x.due(hub, "hubOf", hub, 6);
            }
            Probe y = new Probe();
            y.hub(0, 1);
            y.hub(0, 1);
            y.hub(2, 1);
            y.due(1, "hubOf", 1, 6);
            y.due(1, "hubOf", 2, 6);
            y.due(2, "hubOf", 3, 6);
        });
        s.test("7: its children;", () -> {
            Probe x = chain();
            x.due(1, "hubOf", 0, 7);
            x.due(0, "hubOf", 4, 7);
            x.unit(4, 1);
            x.unit(0, 1);
            x.due(2, "hubOf", 0, 7);
            x.due(1, "hubOf", 4, 7);
            x.takeOff(0);
            x.due(0, "hubOf", 4, 7);
        });
        s.test("8: its units;", () -> {
            Probe x = chain();
            x.due(0, "hubOf", 0, 8);
            x.unit(4, 1);
            x.unit(0, 1);
            x.due(2, "hubOf", 0, 8);
            x.due(1, "hubOf", 3, 8);
            x.takeOff(0);
            x.due(1, "hubOf", 0, 8);
            x.due(0, "hubOf", 3, 8);
        });
        s.test("9: its slots;", TreePromises::slotsAndReleased);
        s.test("10: frames released;", TreePromises::slotsAndReleased);
        s.test("11: late frames;", TreePromises::lateAndDouble);
        s.test("12: double frames;", TreePromises::lateAndDouble);
        s.test("13: the stamp of the latest frame released;", () -> {
            Probe x = new Probe();
            x.set(0, 4, 4);
            x.unit(0, 1);
            x.passTo(20);
            x.due(Check.ABSENT, "hubOf", 0, 13);
            x.send(0, 0, 0, 0, 1);
            x.pass(1);
            x.due(0, "hubOf", 0, 13);
            x.send(0, 5, 0, 0, 1);
            x.pass(1);
            x.due(8, "hubOf", 0, 13);
            x.send(0, 3, 0, 0, 1);
            x.pass(1);
            x.due(8, "hubOf", 0, 13);
            x.undo();
            x.undo();
            x.undo();
            x.due(0, "hubOf", 0, 13);
        });
        s.test("14: frames on their way to the hub above", () -> {
            Probe x = new Probe();
            x.hub(0, 1);
            x.hub(1, 1);
            x.unit(1, 1);
            x.unit(2, 1);
            x.set(1, 3, 5);
            x.set(2, 3, 2);
            x.send(0, 0, 0, 0, 1);
            x.send(1, 0, 0, 0, 1);
            // Those of units are none of a hub.
            x.due(0, "hubOf", 0, 14);
            x.due(0, "hubOf", 1, 14);
            x.pass(1);
            x.due(0, "hubOf", 0, 14);
            x.due(1, "hubOf", 1, 14);
            x.due(1, "hubOf", 2, 14);
            x.send(0, 1, 0, 0, 1);
            x.pass(1);
            x.due(2, "hubOf", 1, 14);
            x.pass(1);
            x.due(0, "hubOf", 2, 14);
            x.pass(3);
            x.due(1, "hubOf", 1, 14);
            x.pass(1);
            x.due(0, "hubOf", 1, 14);
            // With the delay 0 it is never on its way.
            Probe y = new Probe();
            y.hub(0, 1);
            y.unit(1, 1);
            y.send(0, 0, 0, 0, 1);
            y.pass(1);
            y.due(0, "hubOf", 1, 14);
            y.due(1, "hubOf", 1, 10);
        });
        s.test("Returns the number;", () -> new Probe().due(1, "hubOf", 0, 4));
        s.test("INVALID_ARGUMENT if an argument is out of range;", () -> {
            outOfRange(new Probe(), "hubOf", new int[] {0, 0}, 1, -1, 15, 16);
            new Probe().refuses(Check.INVALID, "hubOf", 1, 5);
            new Probe().refuses(Check.INVALID, "hubOf", 1, 15);
        });
        s.test("NOT_FOUND for 5 of the root, for 13 if none was released.", () -> {
            Probe x = chain();
            x.refuses(Check.ABSENT, "hubOf", 0, 5);
            for (int hub = 0; hub <= 4; hub++) {
                x.refuses(Check.ABSENT, "hubOf", hub, 13);
            }
            x.due(0, "hubOf", 1, 5);
            x.unit(3, 1);
            x.set(2, 3, 1);
            x.send(0, 0, 0, 0, 1);
            x.pass(1);
            x.due(0, "hubOf", 3, 13);
            x.due(0, "hubOf", 2, 13);
            x.due(Check.ABSENT, "hubOf", 1, 13);
            x.due(Check.ABSENT, "hubOf", 4, 13);
            x.pass(1);
            x.due(0, "hubOf", 0, 13);
        });
    }

    private static Probe chain() {
        Probe x = new Probe();
        for (int hub = 1; hub <= 4; hub++) {
            x.hub(hub - 1, 1);
        }
        return x;
    }

    private static void hubFact(int what, int value) {
        for (int hub = 0; hub <= 4; hub++) {
            Probe x = chain();
            int least = what == 4 ? 1 : 0;
            for (int other = 0; other <= 4; other++) {
                x.due(least, "hubOf", other, what);
            }
            x.due(least, "set", hub, what, value);
            for (int other = 0; other <= 4; other++) {
                x.due(other == hub ? value : least, "hubOf", other, what);
            }
        }
    }

    private static void slotsAndReleased() {
        Probe x = new Probe();
        x.hub(0, 1);
        x.unit(1, 1);
        x.unit(0, 1);
        x.set(0, 0, 40);
        x.passTo(9);
        for (int many = 1; many <= 5; many++) {
            x.send(0, many, 0, 0, 1);
            x.pass(1);
            x.due(many, "hubOf", 0, 9);
            x.due(0, "hubOf", 1, 9);
            x.due(0, "hubOf", 0, 10);
            x.due(many, "hubOf", 1, 10);
        }
        for (int many = 1; many <= 5; many++) {
            x.send(1, many, 0, 0, 1);
            x.pass(1);
            x.due(5 - many, "hubOf", 0, 9);
            x.due(many, "hubOf", 0, 10);
        }
    }

    private static void lateAndDouble() {
        Probe x = new Probe();
        x.hub(0, 1);
        x.unit(1, 1);
        x.unit(1, 1);
        x.set(1, 0, 40);
        x.passTo(9);
        for (int many = 0; many <= 3; many++) {
            x.send(0, 5, 0, 0, 1);
            x.pass(1);
            x.due(many, "hubOf", 1, 12);
            x.due(0, "hubOf", 0, 12);
            x.due(0, "hubOf", 1, 11);
        }
        x.send(1, 5, 0, 0, 1);
        x.pass(1);
        for (int many = 1; many <= 3; many++) {
            x.send(many % 2, 6 - many, 0, 0, 1);
            x.pass(1);
            x.due(many, "hubOf", 1, 11);
            x.due(0, "hubOf", 0, 11);
            x.due(3, "hubOf", 1, 12);
        }
    }

    private static void unitOf(Sentences s) {
        s.section("Promise 7: unitOf");
        s.test("Returns something of a unit.", () -> {
            Probe x = StatesTest.busy();
            for (int unit = 0; unit <= 5; unit++) {
                for (int what = 0; what <= 6; what++) {
                    x.changesNothing("unitOf", unit, what);
                }
            }
            x.due(7, "unitOf", 4, 3);
        });
        s.test("- `unit`: number of the unit", () -> {
            Probe x = new Probe();
            outOfRange(x, "unitOf", new int[] {0, 0}, 0, -1, 0, 1);
            for (int unit = 0; unit < 10; unit++) {
                x.unit(0, unit + 1);
                x.due(unit + 1, "unitOf", unit, 1);
            }
            outOfRange(x, "unitOf", new int[] {0, 0}, 0, -1, 10);
        });
        s.test("- `what`: 0: its hub;", () -> {
            Probe x = chain();
            for (int hub = 0; hub <= 4; hub++) {
                x.unit(4 - hub, 1);
                x.due(4 - hub, "unitOf", hub, 0);
            }
            x.takeOff(0);
            x.due(4, "unitOf", 0, 0);
        });
        s.test("1: its period;", () -> {
            Probe x = new Probe();
            x.hub(0, 5);
            x.unit(1, 20);
            x.unit(1, 1);
            x.due(20, "unitOf", 0, 1);
            x.due(1, "unitOf", 1, 1);
            x.takeOff(0);
            x.due(20, "unitOf", 0, 1);
        });
        s.test("2: 1 if it was taken off, otherwise 0;", () -> {
            Probe x = new Probe();
            x.unit(0, 1);
            x.unit(0, 1);
            x.due(0, "unitOf", 0, 2);
            x.takeOff(0);
            x.due(1, "unitOf", 0, 2);
            x.due(0, "unitOf", 1, 2);
            x.undo();
            x.due(0, "unitOf", 0, 2);
        });
        s.test("3: frames sent;", () -> {
            Probe x = new Probe();
            x.unit(0, 1);
            x.unit(0, 2);
            x.due(0, "unitOf", 0, 3);
            for (int many = 1; many <= 3; many++) {
                x.send(0, 0, 0, 0, many);
                x.due(many, "unitOf", 0, 3);
                x.due(0, "unitOf", 1, 3);
            }
            // A refused one was not sent; one that came, was late or double, was.
            x.refuses(Check.INVALID, "send", 0, 0, 0, 0, 0);
            x.pass(5);
            x.due(3, "unitOf", 0, 3);
            x.due(2, "count", 6);
            Check.text(x, "m0,4,1;m1,4,1;");
            x.play();
            x.due(4, "unitOf", 0, 3);
            x.due(1, "unitOf", 1, 3);
            x.takeOff(0);
            x.due(4, "unitOf", 0, 3);
        });
        s.test("4: frames of it on their way to its hub;", () -> {
            Probe x = new Probe();
            x.hub(0, 1);
            x.unit(1, 1);
            x.unit(1, 1);
            x.set(1, 3, 9);
            x.due(0, "unitOf", 0, 4);
            x.send(0, 0, 0, 0, 1);
            x.send(0, 0, 0, 0, 2);
            x.send(1, 0, 0, 0, 2);
            x.due(2, "unitOf", 0, 4);
            x.due(1, "unitOf", 1, 4);
            x.pass(1);
            // That from its hub to the root does not count.
            x.due(1, "unitOf", 0, 4);
            x.takeOff(0);
            x.due(1, "unitOf", 0, 4);
            x.pass(1);
            x.due(0, "unitOf", 0, 4);
            x.due(0, "unitOf", 1, 4);
            // All forty.
            Probe y = new Probe();
            y.unit(0, 1);
            for (int many = 1; many <= 40; many++) {
                y.send(0, 0, 0, 0, 60);
            }
            y.due(40, "unitOf", 0, 4);
        });
        s.test("5: ticks that a frame is on its way from its hub to the root by the delays;", () -> {
            Probe x = chain();
            for (int hub = 0; hub <= 4; hub++) {
                x.unit(hub, 1);
                x.due(0, "unitOf", hub, 5);
            }
            // All delays at their most; that of the root delays nothing.
            for (int hub = 0; hub <= 4; hub++) {
                x.set(hub, 3, 20);
            }
            for (int unit = 0; unit <= 4; unit++) {
                x.due(20 * unit, "unitOf", unit, 5);
            }
            x.set(2, 3, 1);
            int[] ticks = {0, 20, 21, 41, 61};
            for (int unit = 0; unit <= 4; unit++) {
                x.due(ticks[unit], "unitOf", unit, 5);
            }
            x.takeOff(4);
            x.due(61, "unitOf", 4, 5);
            // As many as it is on its way then.
            Probe y = new Probe();
            y.hub(0, 1);
            y.hub(1, 1);
            y.unit(2, 1);
            y.set(1, 3, 4);
            y.set(2, 3, 3);
            y.due(7, "unitOf", 0, 5);
            y.send(0, 0, 0, 0, 1);
            y.due(1 + 7, "nextOut");
        });
        s.test("6: hubs that it goes through, the root included", () -> {
            Probe x = chain();
            for (int hub = 0; hub <= 4; hub++) {
                x.unit(hub, 1);
                x.due(hub + 1, "unitOf", hub, 6);
            }
            Probe y = new Probe();
            y.hub(0, 1);
            y.hub(0, 1);
            y.unit(2, 1);
            y.due(2, "unitOf", 0, 6);
        });
        s.test("Returns the number;", () -> {
            Probe x = new Probe();
            x.unit(0, 1);
            x.due(1, "unitOf", 0, 6);
        });
        s.test("INVALID_ARGUMENT if an argument is out of range.", () -> {
            Probe x = new Probe();
            x.unit(0, 1);
            outOfRange(x, "unitOf", new int[] {0, 0}, 1, -1, 7, 8);
            x.refuses(Check.INVALID, "unitOf", 1, 7);
            x.takeOff(0);
            x.refuses(Check.INVALID, "unitOf", 0, 7);
        });
    }

    private static void unitAt(Sentences s) {
        s.section("Promise 8: unitAt");
        s.test("Returns a unit of a hub;", () -> {
            Probe x = chain();
            x.unit(4, 1);
            x.unit(1, 1);
            x.due(0, "unitAt", 4, 0);
            x.due(1, "unitAt", 1, 1);
            x.due(0, "unitAt", 2, 0);
            x.changesNothing("unitAt", 2, 0);
        });
        s.test("they are in order by their numbers.", () -> {
            // Not in that of the hubs at which they are.
            Probe x = chain();
            int[] hubs = {4, 0, 3, 1, 2, 0, 4, 1, 3, 0};
            for (int unit = 0; unit < 10; unit++) {
                x.unit(hubs[unit], 1);
            }
            for (int unit = 0; unit < 10; unit++) {
                x.due(unit, "unitAt", 0, unit);
            }
            int[] below = {0, 2, 4, 6, 8};
            for (int i = 0; i < below.length; i++) {
                x.due(below[i], "unitAt", 2, i);
            }
            x.takeOff(0);
            x.takeOff(4);
            x.due(2, "unitAt", 2, 0);
            x.due(6, "unitAt", 2, 1);
            x.due(8, "unitAt", 2, 2);
            x.due(Check.ABSENT, "unitAt", 2, 3);
        });
        s.test("- `hub`: number of the hub", () -> {
            Probe x = new Probe();
            x.unit(0, 1);
            outOfRange(x, "unitAt", new int[] {0, 0}, 0, -1, 1);
        });
        s.test("- `index`: 0 for the first one, and so on", () -> {
            Probe x = new Probe();
            x.unit(0, 1);
            x.unit(0, 1);
            x.due(0, "unitAt", 0, 0);
            x.due(1, "unitAt", 0, 1);
            x.due(Check.ABSENT, "unitAt", 0, 2);
        });
        s.test("Returns the number of the unit;", () -> {
            Probe x = new Probe();
            x.unit(0, 1);
            x.unit(0, 1);
            x.takeOff(0);
            x.due(1, "unitAt", 0, 0);
        });
        s.test("INVALID_ARGUMENT if there is no such hub or index is negative;", () -> {
            Probe x = new Probe();
            x.refuses(Check.INVALID, "unitAt", 0, -1);
            x.refuses(Check.INVALID, "unitAt", 0, Integer.MIN_VALUE);
            x.refuses(Check.INVALID, "unitAt", 1, 0);
            x.refuses(Check.INVALID, "unitAt", 1, 100);
            x.refuses(Check.INVALID, "unitAt", -1, -1);
        });
        s.test("NOT_FOUND if there are not so many.", () -> {
            Probe x = new Probe();
            x.refuses(Check.ABSENT, "unitAt", 0, 0);
            for (int unit = 0; unit < 10; unit++) {
                x.unit(0, 1);
                x.due(unit, "unitAt", 0, unit);
                x.due(Check.ABSENT, "unitAt", 0, unit + 1);
            }
            x.due(Check.ABSENT, "unitAt", 0, Integer.MAX_VALUE);
            x.takeOff(3);
            x.due(Check.ABSENT, "unitAt", 0, 9);
            x.due(9, "unitAt", 0, 8);
        });
    }
}
