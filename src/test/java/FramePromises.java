/** The sentences of the promises 9 to 18. */
final class FramePromises {
    private FramePromises() {
    }

    static void tests(Sentences s) {
        send(s);
        pass(s);
        slotAt(s);
        outAt(s);
        readingAt(s);
        heldBy(s);
        nextOut(s);
        foresee(s);
        count(s);
        undo(s);
    }

    private static void send(Sentences s) {
        s.section("Promise 9: send");
        s.test("A unit sends a frame.", () -> {
            Probe x = new Probe();
            x.unit(0, 1);
            x.unit(0, 1);
            x.send(1, 0, 5, 2, 1);
            x.due(1, "unitOf", 1, 3);
            x.due(0, "unitOf", 0, 3);
            x.pass(1);
            x.due(5, "readingAt", 0, 1, 0);
            x.due(2, "readingAt", 0, 1, 1);
        });
        s.test("- `unit`: number of the unit", () -> {
            Probe x = new Probe();
            TreePromises.outOfRange(x, "send", new int[] {0, 0, 0, 0, 1}, 0, -1, 0, 1);
            x.unit(0, 1);
            TreePromises.outOfRange(x, "send", new int[] {0, 0, 0, 0, 1}, 0, -1, 1);
            x.due(1, "send", 0, 0, 0, 0, 1);
        });
        s.test("- `stamp`: 0 to 20000", () -> {
            Probe x = new Probe();
            x.unit(0, 1);
            x.unit(0, 20);
            TreePromises.outOfRange(x, "send", new int[] {0, 0, 0, 0, 1}, 1, -1, 20001, 20020);
            TreePromises.outOfRange(x, "send", new int[] {1, 0, 0, 0, 1}, 1, -20, 20020);
            // In range, but after the time.
            x.due(Check.IMPOSSIBLE, "send", 0, 20000, 0, 0, 1);
            x.due(1, "send", 0, 0, 0, 0, 1);
            x.passTo(20000);
            x.due(1, "send", 0, 19999, 0, 0, 1);
            x.due(2, "send", 0, 20000, 0, 0, 1);
            x.due(3, "send", 1, 20000, 0, 0, 1);
            x.due(Check.INVALID, "send", 0, 20001, 0, 0, 1);
        });
        s.test("- `value`: -100000 to 100000", () -> {
            Probe x = new Probe();
            x.unit(0, 1);
            TreePromises.outOfRange(x, "send", new int[] {0, 0, 0, 0, 1}, 2, -100002, -100001, 100001, 100002);
            int[] values = {-100000, -99999, 0, 99999, 100000};
            for (int i = 0; i < values.length; i++) {
                x.due(1, "send", 0, i, values[i], 0, 1);
                x.pass(1);
                x.due(values[i], "readingAt", 0, 0, 0);
            }
        });
        s.test("- `flags`: 0 to 15", () -> {
            Probe x = new Probe();
            x.unit(0, 1);
            TreePromises.outOfRange(x, "send", new int[] {0, 0, 0, 0, 1}, 3, -1, 16, 17, 32, 64, 128);
            for (int flags = 0; flags <= 15; flags++) {
                x.due(1, "send", 0, flags, 0, flags, 1);
                x.pass(1);
                x.due(flags, "readingAt", 0, 0, 1);
            }
        });
        s.test("- `ticks`: on its way, 1 to 60", () -> {
            Probe x = new Probe();
            x.unit(0, 1);
            TreePromises.outOfRange(x, "send", new int[] {0, 0, 0, 0, 1}, 4, -1, 0, 61, 62);
            for (int ticks : new int[] {1, 2, 59, 60}) {
                Probe y = x.again();
                y.due(1, "send", 0, 0, 0, 0, ticks);
                y.due(ticks, "nextOut");
            }
        });
        s.test("Returns how many frames are on their way then, all together;", () -> {
            Probe x = new Probe();
            x.hub(0, 1);
            x.unit(0, 1);
            x.unit(1, 1);
            x.set(1, 3, 20);
            x.due(1, "send", 0, 0, 0, 0, 60);
            x.due(2, "send", 1, 0, 0, 0, 1);
            x.pass(1);
            // One of a unit, one of a hub.
            x.due(3, "send", 1, 1, 0, 0, 1);
            x.pass(1);
            x.due(4, "send", 0, 0, 0, 0, 1);
            x.pass(50);
            x.due(2, "send", 0, 0, 0, 0, 1);
        });
        s.test("INVALID_ARGUMENT if an argument is out of range;", () -> {
            Probe x = new Probe();
            x.refuses(Check.INVALID, "send", 0, 0, 0, 0, 1);
            x.unit(0, 1);
            int[][] ends = {{0, 0}, {0, 0}, {-100000, 100000}, {0, 15}, {1, 60}};
            // Each argument alone, the others at their ends.
            for (int place = 0; place < 5; place++) {
                for (int side = 0; side <= 1; side++) {
                    int[] arguments = new int[5];
                    for (int other = 0; other < 5; other++) {
                        arguments[other] = ends[other][side];
                    }
                    x.again().due(1, "send", arguments);
                    arguments[place] += side == 0 ? -1 : place == 1 ? 20001 : 1;
                    x.refuses(Check.INVALID, "send", arguments);
                }
            }
        });
        s.test("NOT_POSSIBLE if the unit was taken off", () -> {
            Probe x = new Probe();
            x.unit(0, 1);
            x.unit(0, 1);
            x.takeOff(0);
            x.refuses(Check.IMPOSSIBLE, "send", 0, 0, 0, 0, 1);
            x.due(1, "send", 1, 0, 0, 0, 1);
            x.undo();
            x.undo();
            x.due(1, "send", 0, 0, 0, 0, 1);
        });
        s.test("or the stamp is no multiple of its period", () -> {
            // The period of the unit, not that of its hub.
            Probe x = new Probe();
            x.hub(0, 4);
            x.unit(1, 2);
            x.unit(1, 8);
            x.pass(16);
            x.refuses(Check.IMPOSSIBLE, "send", 0, 1, 0, 0, 1);
            x.refuses(Check.IMPOSSIBLE, "send", 0, 15, 0, 0, 1);
            x.refuses(Check.IMPOSSIBLE, "send", 1, 4, 0, 0, 1);
            x.refuses(Check.IMPOSSIBLE, "send", 1, 7, 0, 0, 1);
            x.refuses(Check.IMPOSSIBLE, "send", 1, 9, 0, 0, 1);
            x.due(1, "send", 0, 2, 0, 0, 1);
            x.due(2, "send", 0, 14, 0, 0, 1);
            x.due(3, "send", 1, 8, 0, 0, 1);
            x.due(4, "send", 1, 0, 0, 0, 1);
            x.due(5, "send", 1, 16, 0, 0, 1);
        });
        s.test("or after the present time;", () -> {
            Probe x = new Probe();
            x.unit(0, 1);
            for (int time = 0; time <= 3; time++) {
                x.due(1, "send", 0, time, 0, 0, 1);
                x.refuses(Check.IMPOSSIBLE, "send", 0, time + 1, 0, 0, 1);
                x.refuses(Check.IMPOSSIBLE, "send", 0, time + 2, 0, 0, 1);
                x.pass(1);
            }
        });
        s.test("LIMIT_REACHED if 40 frames are on their way.", FramePromises::fortyOnTheirWay);
    }

    private static void fortyOnTheirWay() {
        Probe x = new Probe();
        x.unit(0, 1);
        x.unit(0, 1);
        for (int many = 1; many <= 40; many++) {
            x.due(many, "send", many % 2, 0, 0, 0, many == 1 ? 1 : 2);
        }
        x.refuses(Check.LIMIT, "send", 0, 0, 0, 0, 1);
        x.refuses(Check.LIMIT, "send", 1, 0, 0, 0, 60);
        x.due(40, "count", 3);
        // Once one of them has come there is room for one.
        x.pass(1);
        x.due(39, "count", 3);
        x.due(40, "send", 0, 0, 0, 0, 5);
        x.refuses(Check.LIMIT, "send", 0, 0, 0, 0, 5);
        // Those that hubs have released count, and may make it more.
        Probe y = new Probe();
        y.hub(0, 1);
        y.unit(1, 1);
        y.unit(1, 1);
        y.set(1, 0, 40);
        y.set(1, 1, 1);
        y.set(1, 3, 20);
        y.passTo(50);
        for (int stamp = 1; stamp <= 41; stamp++) {
            y.due(stamp == 41 ? 1 : stamp, "send", 0, stamp, 0, 0, 1);
            if (stamp == 40) {
                y.pass(1);
            }
        }
        y.pass(1);
        y.set(1, 0, 0);
        y.pass(1);
        y.due(41, "count", 3);
        y.refuses(Check.LIMIT, "send", 0, 50, 0, 0, 1);
        y.pass(20);
        y.due(1, "send", 0, 50, 0, 0, 1);
    }

    private static void pass(Sentences s) {
        s.section("Promise 10: pass");
        s.test("Lets ticks go by.", () -> {
            Probe x = new Probe();
            x.unit(0, 1);
            x.send(0, 0, 0, 0, 5);
            x.pass(4);
            x.due(0, "count", 4);
            x.pass(1);
            x.due(1, "count", 4);
        });
        s.test("- `ticks`: 1 to 100", () -> {
            Probe x = new Probe();
            TreePromises.outOfRange(x, "pass", new int[] {1}, 0, -100, -1, 0, 101, 102);
            int time = 0;
            for (int ticks : new int[] {1, 2, 99, 100}) {
                time += ticks;
                x.due(time, "pass", ticks);
            }
        });
        s.test("Returns the time then;", () -> {
            Probe x = new Probe();
            x.due(7, "pass", 7);
            x.due(7, "count", 2);
            x.due(9, "pass", 2);
            x.undo();
            x.due(8, "pass", 1);
        });
        s.test("INVALID_ARGUMENT if ticks is out of range;", () -> {
            Probe x = new Probe();
            x.refuses(Check.INVALID, "pass", 0);
            x.refuses(Check.INVALID, "pass", 101);
            Probe y = new Probe();
            y.passTo(19999);
            y.due(Check.INVALID, "pass", 0);
            y.due(Check.INVALID, "pass", 101);
            y.due(Check.INVALID, "pass", Integer.MAX_VALUE);
        });
        s.test("LIMIT_REACHED if it would be greater than 20000.", () -> {
            Probe x = new Probe();
            x.passTo(19901);
            x.due(Check.LIMIT, "pass", 100);
            x.due(20000, "pass", 99);
            x.undo();
            x.passTo(19999);
            x.due(Check.LIMIT, "pass", 2);
            x.due(19999, "count", 2);
            x.due(20000, "pass", 1);
            x.due(Check.LIMIT, "pass", 1);
            x.due(Check.LIMIT, "pass", 100);
            x.due(20000, "count", 2);
            Probe y = new Probe();
            y.passTo(19900);
            y.due(20000, "pass", 100);
        });
    }

    /** A root of the period 4 with the units 0 (1), 1 (4) and 2 (8), and three slots: 4, 8 and 12. */
    private static Probe threeSlots() {
        Probe x = new Probe();
        x.set(0, 4, 4);
        x.unit(0, 1);
        x.unit(0, 4);
        x.unit(0, 8);
        x.set(0, 0, 20);
        x.passTo(12);
        x.send(0, 12, 0, 0, 1);
        x.pass(1);
        x.send(0, 3, 0, 0, 1);
        x.send(1, 8, 0, 0, 1);
        x.pass(1);
        x.send(0, 4, 0, 0, 1);
        x.send(2, 8, 0, 0, 1);
        x.pass(1);
        return x;
    }

    private static void slotFact(int what, int... due) {
        Probe x = threeSlots();
        for (int index = 0; index < due.length; index++) {
            x.due(due[index], "slotAt", 0, index, what);
        }
        x.due(Check.ABSENT, "slotAt", 0, due.length, what);
    }

    private static void slotAt(Sentences s) {
        s.section("Promise 11: slotAt");
        s.test("Returns something of a slot of a hub;", () -> {
            Probe x = threeSlots();
            for (int what = 0; what <= 5; what++) {
                x.changesNothing("slotAt", 0, 0, what);
                x.changesNothing("slotAt", 0, 2, what);
            }
            x.due(3, "hubOf", 0, 9);
        });
        s.test("they are in order by their stamps.", () -> {
            // Whatever the order in which they came.
            int[][] orders = {{1, 2, 3}, {1, 3, 2}, {2, 1, 3}, {2, 3, 1}, {3, 1, 2}, {3, 2, 1}};
            for (int[] order : orders) {
                Probe x = new Probe();
                x.unit(0, 1);
                x.unit(0, 1);
                x.set(0, 0, 40);
                x.pass(9);
                for (int stamp : order) {
                    x.send(0, stamp, 0, 0, 1);
                }
                x.pass(1);
                for (int index = 0; index < 3; index++) {
                    x.due(1 + index, "slotAt", 0, index, 0);
                }
            }
        });
        s.test("- `hub`: number of the hub", () -> {
            Probe x = threeSlots();
            TreePromises.outOfRange(x, "slotAt", new int[] {0, 0, 0}, 0, -1, 1);
            x.hub(0, 4);
            x.due(Check.ABSENT, "slotAt", 1, 0, 0);
            TreePromises.outOfRange(x, "slotAt", new int[] {0, 0, 0}, 0, -1, 2);
        });
        s.test("- `index`: 0 for the first one, and so on", () -> {
            Probe x = threeSlots();
            TreePromises.outOfRange(x, "slotAt", new int[] {9, 0, 0}, 1, -1, 0);
            x.due(4, "slotAt", 0, 0, 0);
            x.due(8, "slotAt", 0, 1, 0);
            x.due(12, "slotAt", 0, 2, 0);
            x.due(Check.ABSENT, "slotAt", 0, 3, 0);
        });
        s.test("- `what`: 0: its stamp;", () -> slotFact(0, 4, 8, 12));
        s.test("1: the time when its first frame came;", () -> {
            slotFact(1, 14, 14, 13);
            // A frame that is dropped as double, and one that comes later, do not change it.
            Probe x = threeSlots();
            x.send(0, 12, 0, 0, 1);
            x.send(0, 11, 0, 0, 1);
            x.pass(1);
            x.due(13, "slotAt", 0, 2, 1);
            // Nor if the first frame's unit is taken off.
            x.takeOff(0);
            x.due(13, "slotAt", 0, 2, 1);
        });
        s.test("2: how many frames it has (those of units that were taken off, too);", () -> {
            slotFact(2, 2, 2, 1);
            Probe x = threeSlots();
            x.takeOff(0);
            x.due(2, "slotAt", 0, 0, 2);
            x.due(1, "slotAt", 0, 2, 2);
            x.takeOff(1);
            x.takeOff(2);
            x.due(2, "slotAt", 0, 1, 2);
        });
        s.test("3: how many it expects;", () -> {
            slotFact(3, 5, 6, 5);
            Probe x = threeSlots();
            x.takeOff(0);
            x.due(1, "slotAt", 0, 0, 3);
            x.due(2, "slotAt", 0, 1, 3);
            x.takeOff(2);
            x.due(1, "slotAt", 0, 1, 3);
            x.takeOff(1);
            x.due(0, "slotAt", 0, 1, 3);
            // The most: ten units of the period 1 at a hub of 20, and four hubs.
            Probe y = new Probe();
            y.set(0, 4, 20);
            for (int hub = 1; hub <= 4; hub++) {
                y.hub(0, 1);
            }
            for (int unit = 0; unit < 10; unit++) {
                y.unit(0, 1);
            }
            y.set(0, 0, 40);
            y.send(0, 0, 0, 0, 1);
            y.pass(1);
            y.due(280, "slotAt", 0, 0, 3);
        });
        s.test("4: 1 if it is complete, otherwise 0;", () -> {
            slotFact(4, 0, 0, 0);
            Probe x = threeSlots();
            x.takeOff(0);
            x.due(0, "slotAt", 0, 0, 4);
            x.due(1, "slotAt", 0, 1, 4);
            x.due(0, "slotAt", 0, 2, 4);
            x.takeOff(1);
            x.due(1, "slotAt", 0, 0, 4);
            x.due(1, "slotAt", 0, 2, 4);
        });
        s.test("5: how many ticks its wait lasts yet, 0 if it is over", () -> {
            // At the time 15 by the rule 0: 4 + 20, 8 + 20 and 12 + 20; by the rule 1: 14 + 20, and 13 + 20.
            slotFact(5, 9, 13, 17);
            Probe x = threeSlots();
            x.set(0, 1, 1);
            x.due(19, "slotAt", 0, 0, 5);
            x.due(19, "slotAt", 0, 1, 5);
            x.due(18, "slotAt", 0, 2, 5);
            x.set(0, 0, 2);
            x.due(1, "slotAt", 0, 0, 5);
            x.due(0, "slotAt", 0, 2, 5);
            x.set(0, 0, 1);
            x.due(0, "slotAt", 0, 0, 5);
            x.set(0, 0, 0);
            x.due(0, "slotAt", 0, 0, 5);
            x.set(0, 1, 0);
            for (int wait = 0; wait <= 40; wait++) {
                x.set(0, 0, wait);
                x.due(Math.max(0, wait - 11), "slotAt", 0, 0, 5);
                x.due(Math.max(0, wait - 3), "slotAt", 0, 2, 5);
            }
        });
        s.test("Returns the number;", () -> threeSlots().due(4, "slotAt", 0, 0, 0));
        s.test("INVALID_ARGUMENT if there is no such hub, index is negative or what is out of range;", () -> {
            Probe x = threeSlots();
            x.refuses(Check.INVALID, "slotAt", 1, 0, 0);
            x.refuses(Check.INVALID, "slotAt", 0, -1, 0);
            x.refuses(Check.INVALID, "slotAt", 0, Integer.MIN_VALUE, 0);
            TreePromises.outOfRange(x, "slotAt", new int[] {0, 0, 0}, 2, -1, 6, 7);
            TreePromises.outOfRange(x, "slotAt", new int[] {0, 3, 0}, 2, -1, 6);
            x.refuses(Check.INVALID, "slotAt", 1, 3, 0);
        });
        s.test("NOT_FOUND if there are not so many slots.", () -> {
            Probe x = new Probe();
            x.refuses(Check.ABSENT, "slotAt", 0, 0, 0);
            Probe y = threeSlots();
            for (int what = 0; what <= 5; what++) {
                y.due(Check.ABSENT, "slotAt", 0, 3, what);
                y.due(Check.ABSENT, "slotAt", 0, Integer.MAX_VALUE, what);
            }
            y.passTo(24);
            y.due(2, "hubOf", 0, 9);
            y.due(Check.ABSENT, "slotAt", 0, 2, 0);
        });
    }

    /** Outputs with the stamps 1 to this number, each released at the time 2 more than its stamp. */
    private static Probe outputs(int many) {
        Probe x = new Probe();
        x.unit(0, 1);
        x.pass(2);
        for (int stamp = 1; stamp <= many; stamp++) {
            x.send(0, stamp, 10 * stamp, stamp % 16, 1);
            x.pass(1);
        }
        return x;
    }

    private static void outAt(Sentences s) {
        s.section("Promise 12: outAt");
        s.test("Returns something of an output.", () -> {
            for (int what = 0; what <= 4; what++) {
                outputs(3).changesNothing("outAt", 1, what);
            }
            outputs(3).due(2, "outAt", 1, 0);
        });
        s.test("- `index`: 0 for the latest one, 1 for the one before, and so on", () -> {
            for (int many : new int[] {1, 2, 7, 8, 9, 16, 17}) {
                Probe x = outputs(many);
                for (int index = 0; index < Math.min(8, many); index++) {
                    x.due(many - index, "outAt", index, 0);
                }
            }
        });
        s.test("- `what`: 0: its stamp;", () -> {
            outputs(1).due(1, "outAt", 0, 0);
            // The stamp of the slot, not that of the frame.
            Probe x = new Probe();
            x.set(0, 4, 10);
            x.unit(0, 1);
            x.set(0, 1, 1);
            x.pass(1);
            x.send(0, 1, 0, 0, 1);
            x.pass(1);
            x.due(10, "outAt", 0, 0);
            x.due(2, "outAt", 0, 1);
        });
        s.test("1: the time when it was released;", () -> {
            Probe x = outputs(9);
            for (int index = 0; index < 8; index++) {
                x.due(11 - index, "outAt", index, 1);
            }
        });
        s.test("2: its flags;", () -> {
            Probe x = outputs(16);
            x.due(0, "outAt", 0, 2);
            x.due(15, "outAt", 1, 2);
            x.due(9, "outAt", 7, 2);
        });
        s.test("3: how many readings it has;", () -> {
            Probe x = new Probe();
            for (int unit = 0; unit < 10; unit++) {
                x.unit(0, 1);
            }
            x.pass(9);
            for (int many = 1; many <= 9; many += 4) {
                for (int unit = 0; unit < many; unit++) {
                    x.send(unit, many, 0, 0, 1);
                }
                x.pass(1);
                x.due(many, "outAt", 0, 3);
                x.due(10 - many, "outAt", 0, 4);
            }
        });
        s.test("4: how many units were missing", () -> {
            // Those that were units then.
            Probe x = new Probe();
            x.unit(0, 1);
            x.unit(0, 1);
            x.unit(0, 1);
            x.takeOff(2);
            x.send(0, 0, 0, 0, 1);
            x.pass(1);
            x.due(1, "outAt", 0, 4);
            x.takeOff(1);
            x.unit(0, 1);
            x.due(1, "outAt", 0, 4);
            x.due(16, "outAt", 0, 2);
        });
        s.test("Returns the number;", () -> outputs(1).due(3, "outAt", 0, 1));
        s.test("INVALID_ARGUMENT if index is negative or what is out of range;", () -> {
            Probe x = outputs(2);
            x.refuses(Check.INVALID, "outAt", -1, 0);
            x.refuses(Check.INVALID, "outAt", Integer.MIN_VALUE, 0);
            TreePromises.outOfRange(x, "outAt", new int[] {0, 0}, 1, -1, 5, 6);
            TreePromises.outOfRange(x, "outAt", new int[] {2, 0}, 1, -1, 5);
            x.refuses(Check.INVALID, "outAt", -1, 5);
        });
        s.test("NOT_FOUND if not so many are kept.", () -> {
            new Probe().refuses(Check.ABSENT, "outAt", 0, 0);
            for (int many : new int[] {1, 7, 8, 9, 16}) {
                Probe x = outputs(many);
                for (int what = 0; what <= 4; what++) {
                    x.due(Check.ABSENT, "outAt", Math.min(8, many), what);
                    x.due(Check.ABSENT, "outAt", Integer.MAX_VALUE, what);
                }
            }
            outputs(9).refuses(Check.ABSENT, "outAt", 8, 0);
        });
    }

    private static void readingAt(Sentences s) {
        s.section("Promise 13: readingAt");
        s.test("Returns something of a reading in an output.", () -> {
            outputs(9).changesNothing("readingAt", 0, 0, 0);
            outputs(9).changesNothing("readingAt", 7, 0, 1);
            outputs(9).due(90, "readingAt", 0, 0, 0);
        });
        s.test("- `index`: 0 for the latest one, 1 for the one before, and so on", () -> {
            for (int many : new int[] {1, 2, 7, 8, 9, 17}) {
                Probe x = outputs(many);
                for (int index = 0; index < Math.min(8, many); index++) {
                    x.due(10 * (many - index), "readingAt", index, 0, 0);
                }
            }
        });
        s.test("- `unit`: number of the unit", () -> {
            Probe x = outputs(1);
            TreePromises.outOfRange(x, "readingAt", new int[] {0, 0, 0}, 1, -1, 1);
            x.unit(0, 1);
            x.due(Check.ABSENT, "readingAt", 0, 1, 0);
            TreePromises.outOfRange(x, "readingAt", new int[] {0, 0, 0}, 1, -1, 2);
        });
        s.test("- `what`: 0: its value;", () -> outputs(3).due(30, "readingAt", 0, 0, 0));
        s.test("1: its flags", () -> {
            Probe x = outputs(16);
            x.due(0, "readingAt", 0, 0, 1);
            x.due(15, "readingAt", 1, 0, 1);
            // What a hub sets is in them.
            Probe y = new Probe();
            y.set(0, 4, 2);
            y.set(0, 2, 1);
            y.unit(0, 1);
            y.pass(2);
            y.send(0, 2, 0, 15, 1);
            y.pass(1);
            y.due(64 + 32 + 15, "readingAt", 0, 0, 1);
        });
        s.test("Returns the number;", () -> outputs(1).due(10, "readingAt", 0, 0, 0));
        s.test("INVALID_ARGUMENT if index is negative, there is no such unit or what is out of range;", () -> {
            Probe x = outputs(1);
            x.refuses(Check.INVALID, "readingAt", -1, 0, 0);
            x.refuses(Check.INVALID, "readingAt", Integer.MIN_VALUE, 0, 0);
            x.refuses(Check.INVALID, "readingAt", 0, 1, 0);
            TreePromises.outOfRange(x, "readingAt", new int[] {0, 0, 0}, 2, -1, 2, 3);
            x.refuses(Check.INVALID, "readingAt", 1, 1, 0);
            x.refuses(Check.INVALID, "readingAt", 1, 0, 2);
            new Probe().refuses(Check.INVALID, "readingAt", 0, 0, 0);
        });
        s.test("NOT_FOUND if not so many outputs are kept or it has no reading of the unit.", () -> {
            Probe x = outputs(1);
            x.unit(0, 1);
            x.refuses(Check.ABSENT, "readingAt", 1, 0, 0);
            x.refuses(Check.ABSENT, "readingAt", 0, 1, 0);
            x.refuses(Check.ABSENT, "readingAt", 0, 1, 1);
            x.due(Check.ABSENT, "readingAt", Integer.MAX_VALUE, 0, 0);
            x.due(Check.ABSENT, "readingAt", 1, 1, 1);
            Probe y = outputs(9);
            y.due(20, "readingAt", 7, 0, 0);
            y.due(Check.ABSENT, "readingAt", 8, 0, 0);
            // One of a unit that was taken off later is there.
            y.takeOff(0);
            y.due(20, "readingAt", 7, 0, 0);
            Probe z = new Probe();
            z.unit(0, 1);
            z.due(Check.ABSENT, "readingAt", 0, 0, 0);
        });
    }

    /** Hub 1 has released a reading 5 with the flag 8 of unit 0, the root none; unit 1 has sent nothing. */
    private static Probe heldByHubOne() {
        Probe x = new Probe();
        x.hub(0, 1);
        x.unit(1, 1);
        x.unit(1, 1);
        x.set(1, 3, 20);
        x.send(0, 0, 5, 8, 1);
        x.pass(1);
        return x;
    }

    private static void heldBy(Sentences s) {
        s.section("Promise 14: heldBy");
        s.test("Returns something of the latest reading that a hub has released for a unit.", () -> {
            Probe x = heldByHubOne();
            x.send(0, 1, 7, 0, 1);
            x.due(5, "heldBy", 1, 0, 0);
            x.pass(1);
            x.due(7, "heldBy", 1, 0, 0);
            x.due(0, "heldBy", 1, 0, 1);
            // An older stamp is late, and not released.
            x.send(0, 0, 9, 0, 1);
            x.pass(1);
            x.due(7, "heldBy", 1, 0, 0);
            x.pass(18);
            x.due(5, "heldBy", 0, 0, 0);
            x.pass(1);
            x.due(7, "heldBy", 0, 0, 0);
            x.changesNothing("heldBy", 0, 0, 0);
        });
        s.test("- `hub`: number of the hub", () ->
                TreePromises.outOfRange(heldByHubOne(), "heldBy", new int[] {0, 0, 0}, 0, -1, 2));
        s.test("- `unit`: number of the unit", () ->
                TreePromises.outOfRange(heldByHubOne(), "heldBy", new int[] {1, 0, 0}, 1, -1, 2));
        s.test("- `what`: 0: its value;", () -> heldByHubOne().due(5, "heldBy", 1, 0, 0));
        s.test("1: its flags", () -> heldByHubOne().due(8, "heldBy", 1, 0, 1));
        s.test("Returns the number;", () -> {
            Probe x = heldByHubOne();
            x.takeOff(0);
            x.due(5, "heldBy", 1, 0, 0);
        });
        s.test("INVALID_ARGUMENT if an argument is out of range;", () -> {
            TreePromises.outOfRange(heldByHubOne(), "heldBy", new int[] {1, 0, 0}, 2, -1, 2, 3);
            heldByHubOne().refuses(Check.INVALID, "heldBy", 0, 1, 2);
            heldByHubOne().refuses(Check.INVALID, "heldBy", 2, 2, 0);
        });
        s.test("NOT_FOUND if there is none.", () -> {
            Probe x = heldByHubOne();
            x.refuses(Check.ABSENT, "heldBy", 1, 1, 0);
            x.refuses(Check.ABSENT, "heldBy", 1, 1, 1);
            x.refuses(Check.ABSENT, "heldBy", 0, 0, 0);
            // Of a unit that is none of the hub's.
            x.hub(0, 1);
            x.due(Check.ABSENT, "heldBy", 2, 0, 0);
            x.unit(0, 1);
            x.send(2, 1, 6, 0, 1);
            x.pass(1);
            x.due(6, "heldBy", 0, 2, 0);
            x.due(Check.ABSENT, "heldBy", 1, 2, 0);
        });
    }

    /** Four hubs in a row, each with the delay 20, and a frame that needs 140 ticks, and more as the waits tell. */
    private static Probe farAway(int... waits) {
        Probe x = new Probe();
        for (int hub = 1; hub <= 4; hub++) {
            x.hub(hub - 1, 1);
            x.set(hub, 3, 20);
            x.set(hub, 1, 1);
            x.unit(hub, 1);
        }
        x.unit(4, 1);
        for (int i = 0; i < waits.length; i++) {
            x.set(4 - i, 0, waits[i]);
        }
        x.send(3, 0, 5, 0, 60);
        return x;
    }

    private static void nextOut(Sentences s) {
        s.section("Promise 15: nextOut");
        s.test("Foretells in how many ticks", () -> {
            Probe x = new Probe();
            x.unit(0, 1);
            x.unit(0, 1);
            x.set(0, 0, 3);
            x.send(0, 0, 5, 0, 1);
            x.due(3, "nextOut");
            x.pass(1);
            x.due(2, "nextOut");
            x.pass(1);
            x.due(1, "nextOut");
            x.send(1, 0, 5, 0, 1);
            x.due(1, "nextOut");
            x.pass(1);
            x.due(1, "count", 4);
            x.due(Check.ABSENT, "nextOut");
            // It changes nothing.
            StatesTest.busy().changesNothing("nextOut");
            farAway().changesNothing("nextOut");
        });
        s.test("(also beyond the time 20000)", () -> {
            for (int time : new int[] {19940, 19950, 19999, 20000}) {
                Probe x = new Probe();
                x.unit(0, 1);
                x.passTo(time);
                x.send(0, time, 0, 0, 60);
                x.due(60, "nextOut");
                x.due(time, "count", 2);
            }
            Probe y = new Probe();
            y.set(0, 4, 20);
            y.unit(0, 1);
            y.passTo(20000);
            y.send(0, 19999, 0, 0, 1);
            y.set(0, 0, 40);
            y.due(40, "nextOut");
        });
        s.test("the next output is released, if nothing is done.", () -> {
            // The next one, not one that was; the first of several.
            Probe x = new Probe();
            x.unit(0, 1);
            x.pass(9);
            x.send(0, 1, 0, 0, 1);
            x.pass(1);
            x.due(1, "count", 4);
            x.due(Check.ABSENT, "nextOut");
            x.send(0, 3, 0, 0, 9);
            x.send(0, 4, 0, 0, 5);
            x.send(0, 2, 0, 0, 7);
            x.due(5, "nextOut");
            // A frame that is going to be late makes none.
            Probe y = new Probe();
            y.unit(0, 1);
            y.send(0, 0, 0, 0, 1);
            y.pass(1);
            y.send(0, 0, 0, 0, 1);
            y.due(Check.ABSENT, "nextOut");
            // What another hub than the root releases is no output.
            Probe z = new Probe();
            z.hub(0, 1);
            z.unit(1, 1);
            z.set(1, 3, 4);
            z.send(0, 0, 0, 0, 2);
            z.due(6, "nextOut");
        });
        s.test("Returns the number of ticks;", () -> {
            Probe x = farAway();
            for (int time = 0; time < 140; time += 20) {
                x.due(140 - time, "nextOut");
                x.pass(20);
            }
            x.due(1, "count", 4);
        });
        s.test("NOT_FOUND if there is none within 200 ticks.", () -> {
            new Probe().refuses(Check.ABSENT, "nextOut");
            farAway(40, 19).due(199, "nextOut");
            farAway(40, 20).due(200, "nextOut");
            farAway(40, 21).refuses(Check.ABSENT, "nextOut");
            Probe x = farAway(40, 21);
            x.pass(1);
            x.due(200, "nextOut");
            x.pass(1);
            x.due(199, "nextOut");
            farAway(40, 40, 40, 40).due(Check.ABSENT, "nextOut");
        });
    }

    private static void foresee(Sentences s) {
        s.section("Promise 16: foresee");
        s.test("Foretells the stamp of the latest output behind some ticks", () -> {
            Probe x = new Probe();
            x.unit(0, 1);
            x.pass(9);
            x.send(0, 3, 0, 0, 2);
            x.send(0, 5, 0, 0, 4);
            x.send(0, 4, 0, 0, 4);
            x.send(0, 8, 0, 0, 5);
            int[] stamps = {Check.ABSENT, 3, 3, 5, 8, 8};
            for (int ticks = 1; ticks <= 6; ticks++) {
                x.due(stamps[ticks - 1], "foresee", ticks);
            }
            StatesTest.busy().changesNothing("foresee", 1);
            StatesTest.busy().changesNothing("foresee", 200);
        });
        s.test("(also beyond the time 20000), if nothing is done.", () -> {
            Probe x = new Probe();
            x.unit(0, 1);
            x.passTo(20000);
            x.send(0, 20000, 0, 0, 60);
            x.due(Check.ABSENT, "foresee", 59);
            x.due(20000, "foresee", 60);
            x.due(20000, "foresee", 200);
            x.due(20000, "count", 2);
            // A slot ahead of the time 20000 has its stamp.
            Probe y = new Probe();
            y.set(0, 4, 19);
            y.unit(0, 1);
            y.passTo(20000);
            y.send(0, 20000, 0, 0, 1);
            y.due(Check.ABSENT, "foresee", 6);
            y.due(20007, "foresee", 7);
        });
        s.test("- `ticks`: 1 to 200", () -> {
            Probe x = farAway();
            TreePromises.outOfRange(x, "foresee", new int[] {1}, 0, -1, 0, 201, 202);
            x.due(Check.ABSENT, "foresee", 1);
            x.due(Check.ABSENT, "foresee", 139);
            x.due(0, "foresee", 140);
            x.due(0, "foresee", 141);
            x.due(0, "foresee", 200);
        });
        s.test("Returns the stamp;", () -> {
            farAway(40, 20).due(0, "foresee", 200);
            farAway(40, 20).due(Check.ABSENT, "foresee", 199);
        });
        s.test("INVALID_ARGUMENT if ticks is out of range;", () -> {
            Probe x = new Probe();
            x.refuses(Check.INVALID, "foresee", 0);
            x.refuses(Check.INVALID, "foresee", 201);
            x.refuses(Check.ABSENT, "foresee", 1);
            x.refuses(Check.ABSENT, "foresee", 200);
        });
        s.test("NOT_FOUND if there is no output yet.", () -> {
            farAway(40, 21).refuses(Check.ABSENT, "foresee", 200);
            // One that is there already is the latest one, if none comes.
            Probe x = new Probe();
            x.unit(0, 1);
            x.send(0, 0, 0, 0, 1);
            x.due(0, "foresee", 1);
            x.pass(1);
            x.due(0, "foresee", 1);
            x.due(0, "foresee", 200);
            x.undo();
            x.undo();
            x.due(Check.ABSENT, "foresee", 200);
        });
    }

    private static void count(Sentences s) {
        s.section("Promise 17: count");
        s.test("Returns a number.", () -> {
            for (int what = 0; what <= 10; what++) {
                StatesTest.busy().changesNothing("count", what);
            }
            new Probe().due(1, "count", 0);
        });
        s.test("- `what`: 0: hubs;", () -> {
            Probe x = new Probe();
            for (int hub = 1; hub <= 5; hub++) {
                x.due(hub, "count", 0);
                x.hub(0, 1);
            }
            x.due(5, "count", 0);
        });
        s.test("1: units that were not taken off;", () -> {
            Probe x = new Probe();
            x.hub(0, 1);
            for (int unit = 0; unit < 10; unit++) {
                x.due(unit, "count", 1);
                x.unit(unit % 2, 1);
            }
            for (int unit = 0; unit < 10; unit++) {
                x.due(10 - unit, "count", 1);
                x.takeOff(unit);
            }
            x.due(0, "count", 1);
        });
        s.test("2: the time;", () -> {
            Probe x = new Probe();
            x.due(0, "count", 2);
            x.pass(1);
            x.due(1, "count", 2);
            x.passTo(20000);
            x.due(20000, "count", 2);
        });
        s.test("3: frames on their way;", () -> {
            Probe x = new Probe();
            x.hub(0, 1);
            x.unit(1, 1);
            x.set(1, 3, 2);
            x.due(0, "count", 3);
            for (int many = 1; many <= 40; many++) {
                x.send(0, 0, 0, 0, many == 1 ? 1 : 2);
                x.due(many, "count", 3);
            }
            x.pass(1);
            x.due(40, "count", 3);
            x.pass(1);
            x.due(1, "count", 3);
            x.pass(1);
            x.due(0, "count", 3);
        });
        s.test("4: outputs so far;", () -> outputsCounted(4));
        s.test("5: outputs that are kept;", () -> outputsCounted(5));
        s.test("6: late frames of all hubs;", () -> lateAndDoubleOfAllHubs(6));
        s.test("7: double frames of all hubs;", () -> lateAndDoubleOfAllHubs(7));
        s.test("8: the most ticks from the stamp of an output to the time when it was released, of all outputs so far",
                FramePromises::mostTicks);
        s.test("(below 0 if all were released ahead of their stamps);", FramePromises::aheadOfTheirStamps);
        s.test("9: states in the history;", () -> {
            Probe x = new Probe();
            for (int many = 0; many <= 6; many++) {
                x.due(Math.min(many, 4), "count", 9);
                x.pass(1);
            }
            for (int left = 3; left >= 0; left--) {
                x.undo();
                x.due(left, "count", 9);
            }
            x.undo();
            x.due(0, "count", 9);
        });
        s.test("10: the length of the text", () -> {
            Probe x = new Probe();
            for (int length = 0; length < 60; length++) {
                x.due(length, "count", 10);
                x.type('p');
            }
            x.due(60, "count", 10);
            x.type('p');
            x.due(60, "count", 10);
            x.clearText();
            x.due(0, "count", 10);
        });
        s.test("Returns the number;", () -> new Probe().due(0, "count", 2));
        s.test("INVALID_ARGUMENT if what is out of range;", () ->
                TreePromises.outOfRange(new Probe(), "count", new int[] {0}, 0, -1, 11, 12));
        s.test("NOT_FOUND for 8 if there was no output.", () -> {
            Probe x = new Probe();
            x.refuses(Check.ABSENT, "count", 8);
            x.hub(0, 1);
            x.unit(1, 1);
            x.set(1, 3, 2);
            x.send(0, 0, 0, 0, 1);
            x.pass(2);
            x.due(Check.ABSENT, "count", 8);
            x.pass(1);
            x.due(3, "count", 8);
            x.undo();
            x.due(Check.ABSENT, "count", 8);
        });
    }

    private static void outputsCounted(int what) {
        for (int many : new int[] {0, 1, 7, 8, 9, 16, 17}) {
            outputs(many).due(what == 4 ? many : Math.min(8, many), "count", what);
        }
    }

    private static void lateAndDoubleOfAllHubs(int what) {
        Probe x = new Probe();
        for (int hub = 1; hub <= 4; hub++) {
            x.hub(0, 1);
        }
        for (int hub = 0; hub <= 4; hub++) {
            x.unit(hub, 1);
            x.unit(hub, 1);
            x.set(hub, 1, 1);
            x.set(hub, 0, what == 6 ? 0 : 40);
        }
        x.pass(9);
        x.due(0, "count", what);
        for (int hub = 0; hub <= 4; hub++) {
            x.send(2 * hub, 5, 0, 0, 1);
            x.pass(1);
            int before = x.count(what);
            // With a wait of 0 the second one is late, with one of 40 it is double.
            x.send(2 * hub, 5, 0, 0, 1);
            x.pass(1);
            x.due(before + 1, "count", what);
            x.due(0, "count", 13 - what);
        }
    }

    private static void mostTicks() {
        Probe x = new Probe();
        x.unit(0, 1);
        x.send(0, 0, 0, 0, 1);
        x.pass(1);
        x.due(1, "count", 8);
        x.pass(10);
        // More, the same, fewer.
        x.send(0, 6, 0, 0, 1);
        x.pass(1);
        x.due(6, "count", 8);
        x.send(0, 7, 0, 0, 1);
        x.pass(1);
        x.due(6, "count", 8);
        x.send(0, 13, 0, 0, 1);
        x.pass(1);
        x.due(6, "count", 8);
        // Also if the output is not kept any more.
        for (int i = 14; i < 24; i++) {
            x.send(0, i, 0, 0, 1);
            x.pass(1);
        }
        x.due(6, "count", 8);
        x.due(16, "outAt", 7, 0);
    }

    private static void aheadOfTheirStamps() {
        Probe x = new Probe();
        x.set(0, 4, 20);
        x.set(0, 1, 1);
        x.unit(0, 1);
        x.pass(1);
        x.send(0, 1, 0, 0, 1);
        x.pass(1);
        x.due(-18, "count", 8);
        x.passTo(22);
        x.send(0, 21, 0, 0, 1);
        x.pass(1);
        x.due(-17, "count", 8);
        x.passTo(41);
        x.send(0, 41, 0, 0, 1);
        x.pass(1);
        x.due(-17, "count", 8);
        // Just at its stamp; and one tick behind it.
        x.passTo(79);
        x.send(0, 79, 0, 0, 1);
        x.pass(1);
        x.due(0, "count", 8);
        x.passTo(100);
        x.send(0, 100, 0, 0, 1);
        x.pass(1);
        x.due(1, "count", 8);
    }

    private static void undo(Sentences s) {
        s.section("Promise 18: undo");
        s.test("Restores the latest state of the history", () -> {
            Probe x = new Probe();
            x.pass(1);
            x.pass(2);
            x.pass(3);
            x.due(2, "undo");
            x.due(3, "count", 2);
            x.due(1, "undo");
            x.due(1, "count", 2);
            x.pass(9);
            x.due(1, "undo");
            x.due(1, "count", 2);
            x.due(0, "undo");
            x.due(0, "count", 2);
        });
        s.test("Restores the latest state", FramePromises::nothingIsLeftOfWhatWasUndone);
        s.test("which is removed from it.", () -> {
            Probe x = new Probe();
            x.pass(1);
            x.pass(1);
            x.due(2, "count", 9);
            x.undo();
            x.due(1, "count", 9);
            x.undo();
            x.due(0, "count", 9);
            x.refuses(Check.IMPOSSIBLE, "undo");
        });
        s.test("Returns the number of states that are left in the history;", () -> {
            for (int many : new int[] {1, 3, 4, 5, 9}) {
                Probe x = new Probe();
                for (int i = 0; i < many; i++) {
                    x.pass(1);
                }
                for (int left = Math.min(many, 4) - 1; left >= 0; left--) {
                    x.due(left, "undo");
                }
            }
        });
        s.test("NOT_POSSIBLE if it is empty.", () -> {
            Probe x = new Probe();
            x.refuses(Check.IMPOSSIBLE, "undo");
            x.refuses(Check.INVALID, "pass", 0);
            x.refuses(Check.IMPOSSIBLE, "undo");
            x.type('p');
            x.refuses(Check.IMPOSSIBLE, "undo");
            for (int i = 0; i < 6; i++) {
                x.pass(1);
            }
            for (int i = 3; i >= 0; i--) {
                x.due(i, "undo");
            }
            x.refuses(Check.IMPOSSIBLE, "undo");
            x.due(2, "count", 2);
        });
    }

    /** Whatever is done and undone next, the object is as one that has never had it. */
    private static void nothingIsLeftOfWhatWasUndone() {
        StatesTest.numbersAreUsedAgain();
        for (String calls : new String[] {"hhhh", "hhhu", "hhuu", "huuu", "uuuu", "uutt"}) {
            for (int passes = 0; passes <= 5; passes++) {
                for (int undone = 0; undone <= Math.min(passes, 4); undone++) {
                    Probe x = new Probe();
                    doneAndUndone(x, calls);
                    Probe y = new Probe();
                    passAndUndo(x, passes, undone);
                    passAndUndo(y, passes, undone);
                    Facts.same(calls + " undone", Facts.of(x), Facts.of(y));
                    x.hub(0, 3);
                    y.hub(0, 3);
                    x.unit(1, 1);
                    y.unit(1, 1);
                    Facts.same(calls + " undone, and new ones", Facts.of(x), Facts.of(y));
                }
            }
        }
    }

    private static void passAndUndo(Probe x, int passes, int undone) {
        for (int i = 0; i < passes; i++) {
            x.pass(1);
        }
        for (int i = 0; i < undone; i++) {
            x.undo();
        }
    }

    /** Four changes: each adds a hub (h) or a unit (u), or takes one off (t). */
    private static void doneAndUndone(Probe x, String calls) {
        for (int i = 0; i < 4; i++) {
            char kind = calls.charAt(i);
            Check.holds(calls + " is possible",
                    (kind == 'h' ? x.hub(0, 2) : kind == 'u' ? x.unit(0, 2) : x.takeOff(i - 2)) >= 0);
        }
        for (int left = 3; left >= 0; left--) {
            x.due(left, "undo");
        }
    }
}
