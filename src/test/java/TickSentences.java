/** The sentences of "A tick". */
final class TickSentences {
    private TickSentences() {
    }

    static void tests(Sentences s) {
        s.section("A tick");
        s.test("Time becomes greater by 1.", TickSentences::greaterByOne);
        s.test("Then all frames come that are due by then", TickSentences::allThatAreDue);
        s.test("those that are due earlier ahead of later ones", TickSentences::earlierOnesFirst);
        s.test("of the same time in the order in which they were sent or released.", TickSentences::inTheOrderOfSending);
        s.test("Then the hubs are asked to release:", TickSentences::askedBehindTheComing);
        s.test("those deeper below the root first, of the same depth by their numbers;", TickSentences::deeperOnesFirst);
        s.test("what a hub releases with the delay 0 comes to the hub above it at once.", TickSentences::atOnce);
    }

    private static void greaterByOne() {
        int[] ticks = {1, 2, 99, 100};
        for (int many : ticks) {
            // So many ticks at once are as many ticks one by one, but for the history.
            Probe x = StatesTest.busy();
            Probe y = x.again();
            int time = x.count(2);
            x.due(time + many, "pass", many);
            for (int i = 1; i <= many; i++) {
                y.due(time + i, "pass", 1);
            }
            Facts.same("pass(" + many + ")", Facts.of(x), Facts.of(y));
        }
    }

    private static void allThatAreDue() {
        Probe x = new Probe();
        x.unit(0, 1);
        x.unit(0, 1);
        x.set(0, 0, 40);
        x.passTo(9);
        for (int stamp = 0; stamp < 10; stamp++) {
            x.send(0, stamp, 0, 0, 5 + stamp / 5);
        }
        x.pass(4);
        x.due(10, "count", 3);
        x.due(0, "hubOf", 0, 9);
        x.pass(1);
        x.due(5, "count", 3);
        x.due(5, "hubOf", 0, 9);
        x.pass(1);
        x.due(0, "count", 3);
        x.due(10, "hubOf", 0, 9);
        x.due(14, "slotAt", 0, 4, 1);
        x.due(15, "slotAt", 0, 5, 1);
        // All forty in one tick.
        Probe y = new Probe();
        y.unit(0, 1);
        y.unit(0, 1);
        y.set(0, 1, 1);
        y.set(0, 0, 40);
        y.passTo(40);
        for (int stamp = 1; stamp <= 40; stamp++) {
            y.due(stamp, "send", 0, stamp, 0, 0, 1);
        }
        y.due(41, "pass", 1);
        y.due(0, "count", 3);
        y.due(40, "hubOf", 0, 9);
        // Of those that come and go the ones that are left stay in their order.
        Probe z = new Probe();
        z.unit(0, 1);
        z.unit(0, 1);
        z.set(0, 0, 40);
        int[] ticks = {3, 1, 3, 2, 3};
        for (int i = 0; i < ticks.length; i++) {
            z.send(i == 1 || i == 3 ? 1 : 0, 0, 10 + i, 0, ticks[i]);
        }
        z.pass(2);
        z.due(3, "count", 3);
        z.pass(1);
        z.due(10, "readingAt", 0, 0, 0);
        z.due(11, "readingAt", 0, 1, 0);
    }

    private static Probe openSlot() {
        Probe x = new Probe();
        x.unit(0, 1);
        x.unit(0, 1);
        x.set(0, 0, 9);
        return x;
    }

    private static void earlierOnesFirst() {
        // It is sent later, but due earlier; the one that comes later is double.
        Probe x = openSlot();
        x.send(0, 0, 5, 0, 3);
        x.send(0, 0, 6, 0, 2);
        x.pass(2);
        x.due(1, "slotAt", 0, 0, 2);
        x.due(0, "hubOf", 0, 12);
        x.pass(1);
        x.due(1, "hubOf", 0, 12);
        x.pass(6);
        x.due(6, "readingAt", 0, 0, 0);
        // It is sent in a later tick, but due one tick earlier.
        Probe y = openSlot();
        y.send(0, 0, 5, 0, 5);
        y.pass(1);
        y.send(0, 0, 6, 0, 3);
        y.pass(8);
        y.due(6, "readingAt", 0, 0, 0);
    }

    private static void inTheOrderOfSending() {
        Probe x = openSlot();
        x.send(0, 0, 5, 0, 2);
        x.send(0, 0, 6, 0, 2);
        x.send(0, 0, 7, 0, 2);
        x.pass(9);
        x.due(5, "readingAt", 0, 0, 0);
        x.due(2, "hubOf", 0, 12);
        // Sent one tick later, and due in the same tick.
        Probe y = openSlot();
        y.send(0, 0, 5, 0, 3);
        y.pass(1);
        y.send(0, 0, 6, 0, 2);
        y.pass(1);
        y.send(0, 0, 7, 0, 1);
        y.pass(7);
        y.due(5, "readingAt", 0, 0, 0);
        y.due(2, "hubOf", 0, 12);
        // Others that are due later or earlier, ahead of them and between them, do not change it.
        Probe z = openSlot();
        z.send(1, 0, 1, 0, 9);
        z.send(1, 0, 2, 0, 1);
        z.send(0, 0, 5, 0, 3);
        z.send(1, 0, 3, 0, 8);
        z.send(1, 0, 4, 0, 1);
        z.send(0, 0, 6, 0, 3);
        z.send(0, 0, 7, 0, 4);
        z.pass(3);
        z.due(5, "readingAt", 0, 0, 0);
        z.due(2, "readingAt", 0, 1, 0);
        z.due(2, "hubOf", 0, 12);
    }

    private static void askedBehindTheComing() {
        // The frame that completes the slot comes in the tick in which its wait is over: it is in the output.
        Probe x = new Probe();
        x.unit(0, 1);
        x.unit(0, 1);
        x.set(0, 0, 5);
        x.send(0, 0, 5, 0, 1);
        x.send(1, 0, 6, 0, 5);
        x.pass(5);
        x.due(1, "count", 4);
        x.due(2, "outAt", 0, 3);
        x.due(0, "hubOf", 0, 11);
        // One tick later it is late.
        Probe y = new Probe();
        y.unit(0, 1);
        y.unit(0, 1);
        y.set(0, 0, 5);
        y.send(0, 0, 5, 0, 1);
        y.send(1, 0, 6, 0, 6);
        y.pass(6);
        y.due(1, "count", 4);
        y.due(1, "outAt", 0, 3);
        y.due(1, "hubOf", 0, 11);
        // The double of the first one, due in the same tick, is double, as nothing is released between them.
        Probe z = new Probe();
        z.unit(0, 1);
        z.send(0, 0, 5, 0, 1);
        z.send(0, 0, 6, 0, 1);
        z.pass(1);
        z.due(1, "hubOf", 0, 12);
        z.due(0, "hubOf", 0, 11);
        z.due(5, "readingAt", 0, 0, 0);
        // A frame with a lower stamp that is due in the same tick goes out ahead of it, though it was sent behind it.
        Probe w = new Probe();
        w.unit(0, 1);
        w.pass(9);
        w.send(0, 7, 5, 0, 1);
        w.send(0, 3, 6, 0, 1);
        w.pass(1);
        w.due(2, "count", 4);
        w.due(7, "outAt", 0, 0);
        w.due(0, "hubOf", 0, 11);
    }

    /** All five hubs, each below that with the given number; a unit at each of the last two. */
    private static void outInTheFirstTick(int... above) {
        Probe x = new Probe();
        for (int some : above) {
            x.hub(some, 1);
        }
        x.unit(above.length, 1);
        x.unit(above.length - 1, 1);
        x.send(0, 0, 5, 0, 1);
        x.send(1, 0, 6, 0, 1);
        x.pass(1);
        x.due(1, "count", 4);
        x.due(1, "outAt", 0, 1);
        x.due(2, "outAt", 0, 3);
        for (int hub = 0; hub <= above.length; hub++) {
            x.due(0, "hubOf", hub, 11);
            x.due(x.hubOf(hub, 8) > 0 ? 1 : 0, "hubOf", hub, 10);
        }
    }

    private static void deeperOnesFirst() {
        outInTheFirstTick(0, 1, 2, 3);
        outInTheFirstTick(0, 0, 1, 3);
        outInTheFirstTick(0, 0, 1, 2);
        outInTheFirstTick(0, 0, 2, 1);
        outInTheFirstTick(0, 1, 1, 3);
        outInTheFirstTick(0, 1, 0, 2);
        outInTheFirstTick(0, 0, 0, 0);
        outInTheFirstTick(0, 1, 2, 0);
    }

    private static void atOnce() {
        // Along a chain with the delays 0; a delay of 1 makes it one tick later for each of them.
        for (int delayed = 0; delayed <= 4; delayed++) {
            Probe x = new Probe();
            for (int hub = 1; hub <= 4; hub++) {
                x.hub(hub - 1, 1);
                x.set(hub, 3, hub <= delayed ? 1 : 0);
            }
            x.unit(4, 1);
            x.send(0, 0, 5, 0, 1);
            x.pass(1);
            x.due(delayed == 0 ? 1 : 0, "count", 4);
            x.due(delayed == 0 ? 0 : 1, "count", 3);
            x.pass(10);
            x.due(1, "count", 4);
            x.due(1 + delayed, "outAt", 0, 1);
        }
        // The hub above has it in the same tick, even if it doesn't release it: its slot is there.
        Probe y = new Probe();
        y.hub(0, 1);
        y.unit(1, 1);
        y.unit(0, 1);
        y.set(0, 1, 1);
        y.set(0, 0, 5);
        y.send(0, 0, 5, 0, 3);
        y.pass(3);
        y.due(3, "slotAt", 0, 0, 1);
        y.due(0, "count", 3);
        y.pass(4);
        y.due(0, "count", 4);
        y.pass(1);
        y.due(8, "outAt", 0, 1);
        // Also if it has waited in the hub below: its slot is there since then, not since the unit's frame came.
        Probe z = new Probe();
        z.hub(0, 1);
        z.unit(1, 1);
        z.unit(1, 1);
        z.unit(0, 1);
        for (int hub = 0; hub <= 1; hub++) {
            z.set(hub, 1, 1);
            z.set(hub, 0, 7 + hub);
        }
        z.send(0, 0, 5, 0, 2);
        z.pass(2);
        z.send(2, 1, 5, 0, 60);
        z.pass(8);
        z.due(10, "slotAt", 0, 0, 1);
        z.due(7, "slotAt", 0, 0, 5);
        z.due(7, "nextOut");
    }
}
