/** The sentences of "Gathering". */
final class GatheringSentences {
    private GatheringSentences() {
    }

    static void tests(Sentences s) {
        s.section("Gathering");
        s.test("if the child is quick, S is the least multiple of the period of the hub that is not below s",
                GatheringSentences::slotOfAQuickChild);
        s.test("otherwise S is s.", GatheringSentences::slotOfASlowChild);
        s.test("If S is not above the stamp of the latest frame that the hub has released, the frame is late: it is dropped.",
                GatheringSentences::late);
        s.test("If the slot has a frame of this child with this stamp already, it is double: it is dropped.",
                GatheringSentences::doubles);
        s.test("Otherwise it is kept in the slot, which is there from then on, if it was not.",
                GatheringSentences::thereFromThenOn);
        s.test("A slot is complete if it has all frames that it expects of each child:", GatheringSentences::complete);
        s.test("of a quick child those with the stamps that belong to the slot (as many as the period of the hub divided"
                + " by that of the child", GatheringSentences::expectedOfAQuickChild);
        s.test("of the slot 0, too)", GatheringSentences::slotZero);
        s.test("of a slow one that with the stamp S, if S is a multiple of the period of the child, otherwise none.",
                GatheringSentences::expectedOfASlowChild);
        s.test("A unit that was taken off is no child", GatheringSentences::noChild);
        s.test("(a slot may be complete by that, and is released in the next tick);", GatheringSentences::completeByThat);
        s.test("frames of it that come to its hub then are late.", GatheringSentences::lateAsItsUnitWasTakenOff);
        s.test("The first slot (that with the lowest stamp) is released", GatheringSentences::theLowestStampFirst);
        s.test("if it is complete, or its wait is over:", GatheringSentences::completeOrOver);
        s.test("by the rule 0 at the time S plus the wait or later", GatheringSentences::ruleZero);
        s.test("by the rule 1 when as many ticks as the wait, or more, have gone by since the first frame of the slot came.",
                GatheringSentences::ruleOne);
        s.test("Then the next one is asked, and so on.", GatheringSentences::theNextIsAsked);
    }

    /** A root of this period that waits as long as it can, with a unit of the same period that keeps slots incomplete. */
    private static Probe waiting(int period) {
        Probe x = new Probe();
        x.set(0, 4, period);
        x.set(0, 1, 1);
        x.set(0, 0, 40);
        x.unit(0, period);
        return x;
    }

    private static void slotIs(int due, int period, int childPeriod, int stamp) {
        Probe x = waiting(period);
        x.unit(0, childPeriod);
        x.passTo(40);
        x.send(1, stamp, 0, 0, 1);
        x.pass(1);
        Check.due("period " + period + ", child " + childPeriod + ", stamp " + stamp, x.slotAt(0, 0, 0), due);
        // The same from a hub.
        Probe y = waiting(period);
        y.hub(0, childPeriod);
        y.unit(1, childPeriod);
        y.passTo(40);
        y.send(1, stamp, 0, 0, 1);
        y.pass(1);
        Check.due("period " + period + ", hub " + childPeriod + ", stamp " + stamp, y.slotAt(0, 0, 0), due);
    }

    private static void slotOfAQuickChild() {
        for (int stamp = 0; stamp <= 21; stamp++) {
            slotIs((stamp + 3) / 4 * 4, 4, 1, stamp);
            slotIs((stamp + 19) / 20 * 20, 20, 1, stamp);
            slotIs(stamp, 1, 1, stamp);
        }
        int[][] rows = {{0, 4, 2, 0}, {4, 4, 2, 2}, {4, 4, 2, 4}, {8, 4, 2, 6}, {0, 4, 4, 0}, {4, 4, 4, 4}, {8, 4, 4, 8},
            {20, 20, 10, 10}, {20, 20, 10, 20}, {40, 20, 10, 30}};
        for (int[] row : rows) {
            slotIs(row[0], row[1], row[2], row[3]);
        }
    }

    private static void slotOfASlowChild() {
        int[][] rows = {{4, 8, 0}, {4, 8, 8}, {4, 8, 16}, {4, 20, 20}, {1, 20, 20}, {1, 3, 3}, {1, 2, 0}, {10, 20, 40}};
        for (int[] row : rows) {
            slotIs(row[2], row[0], row[1], row[2]);
        }
    }

    /** A root of the period 4 that has released the stamp 8 and waits from then on. */
    private static Probe releasedEight() {
        Probe x = new Probe();
        x.set(0, 4, 4);
        x.set(0, 1, 1);
        x.unit(0, 1);
        x.unit(0, 8);
        x.passTo(20);
        x.send(0, 6, 0, 0, 1);
        x.pass(1);
        x.due(8, "hubOf", 0, 13);
        x.set(0, 0, 40);
        return x;
    }

    private static void lateIs(Probe x, int unit, int stamp, boolean isLate) {
        int slots = x.hubOf(0, 9);
        int late = x.hubOf(0, 11);
        x.send(unit, stamp, 0, 0, 1);
        x.pass(1);
        x.due(isLate ? slots : slots + 1, "hubOf", 0, 9);
        x.due(isLate ? late + 1 : late, "hubOf", 0, 11);
        x.due(0, "hubOf", 0, 12);
        x.due(isLate ? late + 1 : late, "count", 6);
    }

    private static void late() {
        for (int stamp = 0; stamp <= 13; stamp++) {
            lateIs(releasedEight(), 0, stamp, stamp <= 8);
        }
        // A slow child: its slot is its stamp.
        lateIs(releasedEight(), 1, 0, true);
        lateIs(releasedEight(), 1, 8, true);
        lateIs(releasedEight(), 1, 16, false);
        // As long as nothing was released, nothing is late, the stamp 0 neither; then it is.
        Probe x = waiting(1);
        x.unit(0, 1);
        lateIs(x, 1, 0, false);
        x.set(0, 0, 0);
        x.pass(1);
        x.due(0, "hubOf", 0, 13);
        x.set(0, 0, 40);
        lateIs(x, 1, 0, true);
        lateIs(x, 1, 1, false);
        // Each hub by what it has released itself.
        Probe y = new Probe();
        y.hub(0, 1);
        y.unit(0, 1);
        y.unit(1, 1);
        y.passTo(9);
        y.send(0, 5, 0, 0, 1);
        y.pass(1);
        y.send(1, 5, 0, 0, 1);
        y.pass(1);
        y.due(1, "hubOf", 1, 10);
        y.due(0, "hubOf", 1, 11);
        y.due(1, "hubOf", 0, 11);
        y.send(1, 6, 0, 0, 1);
        y.pass(1);
        y.due(1, "hubOf", 0, 11);
        y.due(6, "outAt", 0, 0);
        y.due(1, "count", 6);
    }

    private static void doubleIs(Probe x, int unit, int stamp, int doubles) {
        x.send(unit, stamp, 100 + stamp, 0, 1);
        x.pass(1);
        x.due(doubles, "hubOf", 0, 12);
        x.due(doubles, "count", 7);
        x.due(0, "hubOf", 0, 11);
    }

    private static void doubles() {
        Probe x = waiting(4);
        x.unit(0, 1);
        x.unit(0, 1);
        x.passTo(20);
        doubleIs(x, 1, 3, 0);
        // Another stamp of the slot, another child, another slot.
        doubleIs(x, 1, 4, 0);
        doubleIs(x, 1, 2, 0);
        doubleIs(x, 2, 3, 0);
        doubleIs(x, 1, 7, 0);
        x.due(4, "slotAt", 0, 0, 2);
        doubleIs(x, 1, 3, 1);
        doubleIs(x, 1, 3, 2);
        doubleIs(x, 2, 3, 3);
        doubleIs(x, 2, 4, 3);
        doubleIs(x, 1, 7, 4);
        x.due(5, "slotAt", 0, 0, 2);
        x.due(1, "slotAt", 0, 1, 2);
        // Once the slot is released they are late, not double.
        x.set(0, 0, 0);
        x.pass(1);
        x.due(0, "hubOf", 0, 9);
        x.send(1, 3, 0, 0, 1);
        x.pass(1);
        x.due(4, "hubOf", 0, 12);
        x.due(1, "hubOf", 0, 11);
        theFirstOfThemIsKept();
        hubsAndUnitsOfOneNumber();
    }

    private static void theFirstOfThemIsKept() {
        Probe x = waiting(1);
        x.unit(0, 1);
        x.send(1, 0, 5, 2, 1);
        x.send(1, 0, 6, 4, 1);
        x.send(1, 0, 7, 8, 2);
        x.pass(2);
        x.due(1, "slotAt", 0, 0, 2);
        x.due(1, "slotAt", 0, 0, 1);
        x.send(0, 0, 1, 0, 1);
        x.pass(1);
        x.due(5, "readingAt", 0, 1, 0);
        x.due(2, "readingAt", 0, 1, 1);
    }

    /** Hub 1 and unit 1 are two children. */
    private static void hubsAndUnitsOfOneNumber() {
        Probe x = waiting(1);
        x.unit(0, 1);
        x.hub(0, 1);
        x.unit(1, 1);
        x.send(1, 0, 5, 0, 1);
        x.send(2, 0, 6, 0, 1);
        x.pass(1);
        x.due(2, "slotAt", 0, 0, 2);
        x.due(0, "count", 7);
    }

    private static void thereFromThenOn() {
        Probe x = waiting(4);
        x.unit(0, 1);
        x.passTo(20);
        x.send(1, 11, 0, 0, 2);
        x.due(0, "hubOf", 0, 9);
        x.pass(1);
        x.due(0, "hubOf", 0, 9);
        x.due(Check.ABSENT, "slotAt", 0, 0, 0);
        x.pass(1);
        x.due(1, "hubOf", 0, 9);
        x.due(12, "slotAt", 0, 0, 0);
        x.due(22, "slotAt", 0, 0, 1);
        // One more in the same slot, one in a slot below, one in a slot above.
        x.send(1, 12, 0, 0, 1);
        x.pass(1);
        x.due(1, "hubOf", 0, 9);
        x.due(2, "slotAt", 0, 0, 2);
        x.due(22, "slotAt", 0, 0, 1);
        x.send(1, 8, 0, 0, 1);
        x.pass(1);
        x.due(2, "hubOf", 0, 9);
        x.due(8, "slotAt", 0, 0, 0);
        x.due(24, "slotAt", 0, 0, 1);
        x.due(12, "slotAt", 0, 1, 0);
        x.due(2, "slotAt", 0, 1, 2);
        x.send(1, 13, 0, 0, 1);
        x.pass(1);
        x.due(3, "hubOf", 0, 9);
        x.due(16, "slotAt", 0, 2, 0);
        // A double one makes none, and leaves that which is there.
        x.send(1, 13, 0, 0, 1);
        x.pass(1);
        x.due(3, "hubOf", 0, 9);
        x.due(1, "slotAt", 0, 2, 2);
        x.due(25, "slotAt", 0, 2, 1);
    }

    private static void complete() {
        // Slot 0 lacks a frame and holds the others back. Of the units of the periods 4, 2 and 8 slot 4 expects 3.
        Probe x = waiting(4);
        x.set(0, 1, 0);
        x.unit(0, 2);
        x.unit(0, 8);
        x.passTo(16);
        x.send(0, 0, 0, 0, 1);
        x.send(0, 4, 0, 0, 1);
        x.send(1, 2, 0, 0, 1);
        x.pass(1);
        x.due(3, "slotAt", 0, 1, 3);
        x.due(2, "slotAt", 0, 1, 2);
        x.due(0, "slotAt", 0, 1, 4);
        x.send(1, 4, 0, 0, 1);
        x.pass(1);
        x.due(3, "slotAt", 0, 1, 2);
        x.due(1, "slotAt", 0, 1, 4);
        // Slot 8: one frame of each child, but not both of the quick one; then both, but not the slow one's.
        x.send(0, 8, 0, 0, 1);
        x.send(1, 6, 0, 0, 1);
        x.send(1, 8, 0, 0, 1);
        x.pass(1);
        x.due(4, "slotAt", 0, 2, 3);
        x.due(3, "slotAt", 0, 2, 2);
        x.due(0, "slotAt", 0, 2, 4);
        x.send(2, 8, 0, 0, 1);
        x.pass(1);
        x.due(1, "slotAt", 0, 2, 4);
        x.due(0, "count", 4);
        // What a child has too many of does not stand for another one: a unit was taken off, its frames count.
        Probe y = waiting(4);
        y.unit(0, 1);
        y.unit(0, 4);
        y.passTo(8);
        y.send(1, 1, 0, 0, 1);
        y.send(1, 2, 0, 0, 1);
        y.send(1, 3, 0, 0, 1);
        y.pass(1);
        y.takeOff(1);
        y.due(3, "slotAt", 0, 0, 2);
        y.due(2, "slotAt", 0, 0, 3);
        y.due(0, "slotAt", 0, 0, 4);
        y.pass(1);
        y.due(0, "count", 4);
    }

    private static void expectedOfAQuickChild() {
        int[] periods = {1, 2, 3, 4, 6, 12};
        for (int period : periods) {
            Probe x = new Probe();
            x.set(0, 4, 12);
            x.set(0, 1, 1);
            x.set(0, 0, 40);
            x.unit(0, period);
            x.passTo(24);
            // Of slot 12 the last one alone, of slot 24 all but the first one.
            x.send(0, 12, 0, 0, 1);
            for (int stamp = 12 + 2 * period; stamp <= 24; stamp += period) {
                x.send(0, stamp, 0, 0, 1);
            }
            x.pass(1);
            x.due(period == 12 ? 1 : 0, "count", 4);
            if (period < 12) {
                x.due(12 / period, "slotAt", 0, 1, 3);
                x.due(12 / period - 1, "slotAt", 0, 1, 2);
                x.due(0, "slotAt", 0, 1, 4);
            }
            x.send(0, 12 + period, 0, 0, 1);
            x.pass(1);
            x.due(period == 12 ? 2 : 0, "count", 4);
            if (period < 12) {
                x.due(12 / period, "slotAt", 0, 1, 2);
                x.due(1, "slotAt", 0, 1, 4);
            }
        }
    }

    private static void slotZero() {
        int[] periods = {1, 2, 4};
        for (int period : periods) {
            Probe x = new Probe();
            x.set(0, 4, 4);
            x.set(0, 0, 40);
            x.unit(0, period);
            x.send(0, 0, 0, 0, 1);
            x.pass(1);
            if (period == 4) {
                x.due(1, "count", 4);
                continue;
            }
            x.due(4 / period, "slotAt", 0, 0, 3);
            x.due(1, "slotAt", 0, 0, 2);
            x.due(0, "slotAt", 0, 0, 4);
            x.pass(38);
            x.due(0, "count", 4);
            x.pass(1);
            x.due(1, "count", 4);
        }
        // Of a slow child the slot 0 expects one, as 0 is a multiple of its period.
        Probe y = waiting(4);
        y.unit(0, 8);
        y.send(0, 0, 0, 0, 1);
        y.pass(1);
        y.due(2, "slotAt", 0, 0, 3);
        y.due(0, "slotAt", 0, 0, 4);
        y.send(1, 0, 0, 0, 1);
        y.pass(1);
        y.due(0, "outAt", 0, 0);
    }

    private static void expectedOfASlowChild() {
        for (int stamp = 0; stamp <= 36; stamp += 4) {
            Probe x = waiting(4);
            x.unit(0, 12);
            x.unit(0, 4);
            x.passTo(36);
            x.send(0, stamp, 0, 0, 1);
            x.pass(1);
            x.due(stamp % 12 == 0 ? 3 : 2, "slotAt", 0, 0, 3);
            x.due(1, "slotAt", 0, 0, 2);
            x.send(2, stamp, 0, 0, 1);
            x.pass(1);
            x.due(stamp % 12 == 0 ? 0 : 1, "count", 4);
            if (stamp % 12 == 0) {
                x.send(1, stamp, 0, 0, 1);
                x.pass(1);
                x.due(1, "count", 4);
            }
            x.due(stamp, "outAt", 0, 0);
        }
    }

    private static void noChild() {
        Probe x = waiting(4);
        x.unit(0, 2);
        x.unit(0, 8);
        x.passTo(8);
        x.send(1, 6, 0, 0, 1);
        x.pass(1);
        x.due(4, "slotAt", 0, 0, 3);
        x.due(3, "hubOf", 0, 7);
        x.takeOff(2);
        x.due(3, "slotAt", 0, 0, 3);
        x.due(2, "hubOf", 0, 7);
        x.takeOff(1);
        x.due(1, "slotAt", 0, 0, 3);
        x.due(1, "slotAt", 0, 0, 2);
        x.takeOff(0);
        x.due(0, "slotAt", 0, 0, 3);
        x.due(0, "hubOf", 0, 7);
        // A hub all of whose units were taken off is a child as before.
        Probe y = waiting(1);
        y.hub(0, 1);
        y.unit(1, 1);
        y.takeOff(1);
        y.due(2, "hubOf", 0, 7);
        y.send(0, 0, 0, 0, 1);
        y.pass(1);
        y.due(2, "slotAt", 0, 0, 3);
        y.due(0, "slotAt", 0, 0, 4);
    }

    private static void completeByThat() {
        Probe x = waiting(1);
        x.unit(0, 1);
        x.send(0, 0, 7, 0, 1);
        x.pass(3);
        x.due(0, "slotAt", 0, 0, 4);
        x.due(1, "takeOff", 1);
        x.due(1, "slotAt", 0, 0, 4);
        x.due(0, "count", 4);
        x.due(1, "hubOf", 0, 9);
        x.due(1, "nextOut");
        x.pass(1);
        x.due(1, "count", 4);
        x.due(4, "outAt", 0, 1);
        x.due(0, "hubOf", 0, 9);
    }

    private static void lateAsItsUnitWasTakenOff() {
        Probe x = waiting(1);
        x.unit(0, 1);
        x.passTo(9);
        x.send(1, 5, 0, 0, 1);
        x.send(1, 5, 0, 0, 2);
        x.send(1, 6, 0, 0, 2);
        x.send(1, 7, 0, 0, 3);
        x.pass(1);
        x.takeOff(1);
        x.due(0, "hubOf", 0, 11);
        x.due(1, "slotAt", 0, 0, 2);
        x.pass(1);
        // Neither double nor kept, though nothing was released.
        x.due(2, "hubOf", 0, 11);
        x.due(0, "hubOf", 0, 12);
        x.due(1, "hubOf", 0, 9);
        x.due(Check.ABSENT, "hubOf", 0, 13);
        x.pass(1);
        x.due(3, "hubOf", 0, 11);
        x.due(3, "count", 6);
        // It is the hub of the unit that counts them, and what came before goes on to the root.
        Probe y = new Probe();
        y.hub(0, 1);
        y.unit(1, 1);
        y.set(1, 3, 3);
        y.send(0, 0, 0, 0, 1);
        y.send(0, 0, 0, 0, 2);
        y.pass(1);
        y.takeOff(0);
        y.pass(3);
        y.due(1, "hubOf", 1, 11);
        y.due(0, "hubOf", 0, 11);
        y.due(1, "count", 4);
    }

    private static void theLowestStampFirst() {
        // Slot 6 came first and its wait is over, but slot 5 is the first one.
        Probe x = waiting(1);
        x.unit(0, 1);
        x.set(0, 0, 4);
        x.passTo(9);
        x.send(0, 6, 0, 0, 1);
        x.pass(1);
        x.send(0, 5, 0, 0, 1);
        x.pass(1);
        x.pass(3);
        x.due(0, "slotAt", 0, 1, 5);
        x.due(0, "count", 4);
        x.pass(1);
        x.due(2, "count", 4);
        x.due(5, "outAt", 1, 0);
        x.due(6, "outAt", 0, 0);
        // Nor does a slot that is complete come out ahead of one below it that is not.
        Probe y = waiting(1);
        y.passTo(9);
        y.unit(0, 1);
        y.send(0, 5, 0, 0, 1);
        y.send(0, 6, 0, 0, 1);
        y.send(1, 6, 0, 0, 1);
        y.pass(1);
        y.due(1, "slotAt", 0, 1, 4);
        y.due(0, "count", 4);
        // Without one below it does.
        Probe z = waiting(1);
        z.passTo(9);
        z.unit(0, 1);
        z.send(0, 7, 0, 0, 1);
        z.send(0, 6, 0, 0, 1);
        z.send(1, 6, 0, 0, 1);
        z.pass(1);
        z.due(1, "count", 4);
        z.due(6, "outAt", 0, 0);
    }

    private static void completeOrOver() {
        for (int rule = 0; rule <= 1; rule++) {
            // Complete, its wait not over; over, but not complete; both; neither.
            for (int kind = 0; kind < 4; kind++) {
                Probe x = waiting(1);
                x.unit(0, 1);
                x.set(0, 1, rule);
                x.set(0, 0, kind == 1 || kind == 2 ? 0 : 40);
                x.send(0, 0, 0, 0, 1);
                if (kind == 0 || kind == 2) {
                    x.send(1, 0, 0, 0, 1);
                }
                x.pass(1);
                x.due(kind == 3 ? 0 : 1, "count", 4);
            }
        }
    }

    /** A slot of a root of this period is released at the time that is due, and not one tick earlier. */
    private static void releasedAt(int due, int rule, int wait, int period, int stamp, int comes) {
        Probe x = waiting(period);
        x.unit(0, 1);
        x.set(0, 1, rule);
        x.set(0, 0, wait);
        x.passTo(comes - 1);
        x.send(1, stamp, 0, 0, 1);
        for (int time = comes; time < due; time++) {
            x.pass(1);
            x.due(due - time, "slotAt", 0, 0, 5);
            x.due(due - time, "nextOut");
            x.due(0, "count", 4);
        }
        x.pass(1);
        x.due(1, "count", 4);
        x.due(due, "outAt", 0, 1);
    }

    private static void ruleZero() {
        releasedAt(6, 0, 0, 1, 5, 6);
        releasedAt(6, 0, 1, 1, 5, 6);
        releasedAt(7, 0, 2, 1, 5, 6);
        releasedAt(45, 0, 40, 1, 5, 6);
        // It came when its wait was over long ago.
        releasedAt(60, 0, 3, 1, 5, 60);
        releasedAt(1, 0, 0, 1, 0, 1);
        // S is not the stamp of the frame; and it may be ahead of the time.
        releasedAt(10, 0, 0, 10, 1, 2);
        releasedAt(11, 0, 1, 10, 1, 2);
        releasedAt(10, 0, 0, 10, 9, 10);
        releasedAt(60, 0, 40, 20, 1, 2);
    }

    private static void ruleOne() {
        releasedAt(6, 1, 0, 1, 5, 6);
        releasedAt(7, 1, 1, 1, 5, 6);
        releasedAt(8, 1, 2, 1, 5, 6);
        releasedAt(46, 1, 40, 1, 5, 6);
        releasedAt(63, 1, 3, 1, 5, 60);
        releasedAt(2, 1, 0, 10, 1, 2);
        releasedAt(3, 1, 1, 10, 1, 2);
        // A second frame of the slot does not make it wait longer.
        Probe x = waiting(4);
        x.unit(0, 1);
        x.set(0, 0, 5);
        x.passTo(8);
        x.send(1, 7, 0, 0, 1);
        x.send(1, 5, 0, 0, 4);
        x.pass(5);
        x.due(2, "slotAt", 0, 0, 2);
        x.due(9, "slotAt", 0, 0, 1);
        x.due(1, "slotAt", 0, 0, 5);
        x.pass(1);
        x.due(14, "outAt", 0, 1);
        // More ticks than the wait have gone by, as it was made less.
        Probe y = waiting(1);
        y.unit(0, 1);
        y.send(1, 0, 0, 0, 1);
        y.pass(9);
        y.set(0, 0, 3);
        y.due(0, "slotAt", 0, 0, 5);
        y.due(0, "count", 4);
        y.pass(1);
        y.due(10, "outAt", 0, 1);
    }

    private static void theNextIsAsked() {
        // Four slots: 1 and 2 complete behind 0, 3 not, 4 complete behind it.
        Probe x = waiting(1);
        x.unit(0, 1);
        x.passTo(9);
        for (int stamp = 0; stamp <= 4; stamp++) {
            x.send(0, stamp, 0, 0, 1);
            if (stamp == 1 || stamp == 2 || stamp == 4) {
                x.send(1, stamp, 0, 0, 1);
            }
        }
        x.pass(1);
        x.due(5, "hubOf", 0, 9);
        x.due(0, "count", 4);
        x.send(1, 0, 0, 0, 1);
        x.pass(1);
        x.due(3, "count", 4);
        x.due(2, "outAt", 0, 0);
        x.due(1, "outAt", 1, 0);
        x.due(0, "outAt", 2, 0);
        x.due(11, "outAt", 0, 1);
        x.due(2, "hubOf", 0, 9);
        x.due(3, "slotAt", 0, 0, 0);
        x.send(1, 3, 0, 0, 1);
        x.pass(1);
        x.due(5, "count", 4);
        x.due(0, "hubOf", 0, 9);
        // By the rule 0 the waits of all that are below the time are over at once.
        Probe y = waiting(1);
        y.unit(0, 1);
        y.set(0, 1, 0);
        y.passTo(20);
        for (int stamp = 1; stamp <= 20; stamp++) {
            y.send(0, stamp, 0, 0, 1);
        }
        y.pass(1);
        y.due(20, "hubOf", 0, 9);
        y.set(0, 0, 10);
        y.pass(1);
        y.due(12, "count", 4);
        y.due(13, "slotAt", 0, 0, 0);
        y.pass(1);
        y.due(13, "count", 4);
    }
}
