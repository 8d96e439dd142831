import java.util.ArrayList;
import java.util.List;

/** The sentences of "Changes and errors". */
final class ChangesSentences {
    private static final int[] NO_NUMBERS = {-1, Integer.MIN_VALUE, Integer.MAX_VALUE};

    private ChangesSentences() {
    }

    static void tests(Sentences s) {
        s.section("Changes and errors");
        s.test("The changes are the calls of hub, unit, takeOff, set, send, pass and play that return no error.",
                ChangesSentences::theChanges);
        s.test("A history of at most 4 states is kept:", ChangesSentences::atMostFour);
        s.test("each change records everything before it but the text", ChangesSentences::everythingButTheText);
        s.test("and if there are 5 states then, the oldest one is dropped.", ChangesSentences::theOldestIsDropped);
        s.test("If several errors apply to a call, INVALID_ARGUMENT is returned rather than NOT_POSSIBLE",
                ChangesSentences::invalidRatherThanNotPossible);
        s.test("NOT_POSSIBLE rather than LIMIT_REACHED", ChangesSentences::notPossibleRatherThanLimit);
        s.test("and LIMIT_REACHED rather than NOT_FOUND.", ChangesSentences::invalidRatherThanTheOthers);
        s.test("A call that returns an error changes nothing.", ChangesSentences::errorsChangeNothing);
        s.test("If there is no hub or unit with a certain number, this is INVALID_ARGUMENT;",
                ChangesSentences::noSuchNumber);
        s.test("units that were taken off keep their numbers.", ChangesSentences::numbersAreKept);
        s.test("`INVALID_ARGUMENT = -1000001`: An argument is out of its range, or there is no such hub or unit.",
                () -> constant(-1000001, PhasorTree.INVALID_ARGUMENT, new PhasorTree().pass(0)));
        s.test("`NOT_POSSIBLE = -1000002`: The call is not possible in the present state.",
                () -> constant(-1000002, PhasorTree.NOT_POSSIBLE, new PhasorTree().undo()));
        s.test("`LIMIT_REACHED = -1000003`: A fixed limit has been reached.", ChangesSentences::limitReached);
        s.test("`NOT_FOUND = -1000004`: There is no such value.",
                () -> constant(-1000004, PhasorTree.NOT_FOUND, new PhasorTree().nextOut()));
        s.noBoundary("Ahead of the calls `hub`, `unit`", "Ahead of the calls `send`, `pass`", "Ahead of the calls `type`");
    }

    private static void constant(int due, int constant, int answer) {
        Check.due("the constant", constant, due);
        Check.due("a call", answer, due);
    }

    private static void limitReached() {
        PhasorTree x = new PhasorTree();
        for (int i = 0; i < 60; i++) {
            x.type('p');
        }
        constant(-1000003, PhasorTree.LIMIT_REACHED, x.type('p'));
    }

    private static void theChanges() {
        Probe x = new Probe();
        x.due(0, "count", 9);
        x.hub(0, 1);
        x.due(1, "count", 9);
        x.unit(1, 1);
        x.due(2, "count", 9);
        x.send(0, 0, 0, 0, 1);
        x.due(3, "count", 9);
        x.pass(1);
        x.due(4, "count", 9);
        x.undo();
        x.undo();
        x.due(2, "count", 9);
        x.set(0, 0, 1);
        x.due(3, "count", 9);
        x.takeOff(0);
        x.due(4, "count", 9);
        x.undo();
        x.undo();
        x.due(2, "count", 9);
        x.play();
        x.due(3, "count", 9);
        // The calls of a text are one change together.
        x.undo();
        Check.text(x, "p1;m0,1,0;p1;x0;");
        x.due(2, "count", 9);
        x.play();
        x.due(3, "count", 9);
        x.undo();
        // What is no change: errors, what belongs to the text, what only asks.
        String[] names = {"hub", "unit", "takeOff", "set", "send", "pass", "type", "fault", "foresee", "outAt"};
        int[][] arguments = {{0, 0}, {5, 1}, {1}, {0, 0, 41}, {0, 1, 0, 0, 1}, {101}, {112}, {0}, {200}, {0, 0}};
        for (int i = 0; i < names.length; i++) {
            x.call(names[i], arguments[i]);
            x.due(2, "count", 9);
        }
        x.due(Check.IMPOSSIBLE, "play");
        x.due(2, "count", 9);
        x.clearText();
        x.nextOut();
        x.due(2, "count", 9);
        // A change that makes nothing different is one, too.
        x.due(0, "set", 0, 0, 0);
        x.due(3, "count", 9);
        x.due(0, "play");
        x.due(4, "count", 9);
    }

    private static void atMostFour() {
        Probe x = new Probe();
        x.due(0, "count", 9);
        x.due(Check.IMPOSSIBLE, "undo");
        for (int many = 1; many <= 9; many++) {
            x.pass(1);
            x.due(Math.min(many, 4), "count", 9);
            Probe y = x.again();
            for (int left = Math.min(many, 4) - 1; left >= 0; left--) {
                y.due(left, "undo");
            }
            y.due(Check.IMPOSSIBLE, "undo");
            y.due(Math.max(0, many - 4), "count", 2);
        }
    }

    private static void everythingButTheText() {
        Probe x = StatesTest.busy();
        Check.text(x, "p1;");
        String[] names = {"hub", "unit", "takeOff", "set", "send", "pass", "play"};
        int[][] arguments = {{1, 1}, {2, 1}, {1}, {2, 0, 0}, {2, 26, 5, 2, 1}, {30}, {}};
        for (int i = 0; i < names.length; i++) {
            Probe y = x.again();
            List<String> before = Facts.of(y);
            Check.holds(names[i] + " is a change", y.call(names[i], arguments[i]) >= 0);
            y.type('q');
            y.due(3, "undo");
            Facts.same("undo of " + names[i], Facts.of(y), before);
            y.due(4, "count", 10);
            y.due(3, "fault", 0);
        }
        // Four of them in a row are taken back one by one.
        List<List<String>> states = new ArrayList<>();
        for (int i = 3; i < names.length; i++) {
            states.add(Facts.of(x));
            x.call(names[i], arguments[i]);
        }
        x.clearText();
        for (int left = 3; left >= 0; left--) {
            x.due(left, "undo");
            Facts.same("state " + left, Facts.of(x), states.get(left));
            x.due(0, "count", 10);
        }
        // The most ticks of an output, and what hubs remember, are part of it.
        Probe z = new Probe();
        z.unit(0, 1);
        z.send(0, 0, 5, 0, 1);
        z.pass(1);
        z.send(0, 1, 6, 0, 9);
        z.pass(9);
        z.due(9, "count", 8);
        z.due(6, "heldBy", 0, 0, 0);
        z.undo();
        z.due(1, "count", 8);
        z.due(5, "heldBy", 0, 0, 0);
        z.undo();
        z.undo();
        z.due(Check.ABSENT, "count", 8);
        z.due(Check.ABSENT, "heldBy", 0, 0, 0);
    }

    private static void theOldestIsDropped() {
        Probe x = new Probe();
        int[] times = {1, 3, 6, 10};
        for (int i = 1; i <= 4; i++) {
            x.due(times[i - 1], "pass", i);
        }
        // Four changes: back to the beginning. Five: no further than behind the first one.
        Probe y = x.again();
        x.pass(5);
        for (int i = 2; i >= 0; i--) {
            y.due(i + 1, "undo");
            y.due(times[i], "count", 2);
        }
        y.due(0, "undo");
        y.due(0, "count", 2);
        y.due(Check.IMPOSSIBLE, "undo");
        for (int i = 3; i >= 0; i--) {
            x.due(i, "undo");
            x.due(times[i], "count", 2);
        }
        x.due(Check.IMPOSSIBLE, "undo");
        x.due(1, "count", 2);
        // Those that were undone are gone; new ones are recorded behind those that are left.
        Probe z = new Probe();
        for (int i = 1; i <= 6; i++) {
            z.pass(1);
        }
        z.due(3, "undo");
        z.due(2, "undo");
        for (int i = 1; i <= 3; i++) {
            z.pass(50);
        }
        int[] back = {104, 54, 4, 3};
        for (int i = 0; i < 4; i++) {
            z.due(3 - i, "undo");
            z.due(back[i], "count", 2);
        }
        z.due(Check.IMPOSSIBLE, "undo");
    }

    private static void invalidRatherThanNotPossible() {
        Probe x = new Probe();
        x.set(0, 4, 6);
        x.unit(0, 3);
        x.unit(0, 3);
        x.takeOff(1);
        x.passTo(7);
        // Neither period is a multiple of the other one, and there is no such hub.
        x.refuses(Check.INVALID, "hub", 1, 4);
        x.refuses(Check.INVALID, "unit", 1, 4);
        // Taken off, no multiple of the period, after the time; and each of the other arguments out of range.
        int[][] notPossible = {{1, 3}, {0, 4}, {0, 9}};
        for (int[] some : notPossible) {
            x.due(Check.IMPOSSIBLE, "send", some[0], some[1], 0, 0, 1);
            x.refuses(Check.INVALID, "send", some[0], some[1], 100001, 0, 1);
            x.refuses(Check.INVALID, "send", some[0], some[1], 0, 16, 1);
            x.refuses(Check.INVALID, "send", some[0], some[1], 0, 0, 61);
            x.refuses(Check.INVALID, "send", some[0], some[1], 0, 0, 0);
        }
        x.refuses(Check.INVALID, "send", 1, 20001, 0, 0, 1);
        x.refuses(Check.INVALID, "send", 1, -1, 0, 0, 1);
        x.refuses(Check.INVALID, "send", 2, 4, 0, 0, 1);
        // A hub that has released cannot be given a period.
        x.send(0, 6, 0, 0, 1);
        x.pass(1);
        x.due(1, "hubOf", 0, 10);
        x.due(Check.IMPOSSIBLE, "set", 0, 4, 3);
        x.refuses(Check.INVALID, "set", 0, 4, 0);
        x.refuses(Check.INVALID, "set", 0, 4, 21);
        x.refuses(Check.INVALID, "set", 0, 5, 3);
        x.refuses(Check.INVALID, "set", 1, 4, 3);
        // A fault that there is; what is out of range all the same.
        Check.text(x, "q");
        x.refuses(Check.INVALID, "fault", 2);
    }

    private static void notPossibleRatherThanLimit() {
        Probe x = new Probe();
        x.set(0, 4, 6);
        for (int hub = 1; hub <= 4; hub++) {
            x.hub(0, 6);
        }
        x.refuses(Check.IMPOSSIBLE, "hub", 0, 4);
        x.refuses(Check.LIMIT, "hub", 0, 3);
        for (int unit = 0; unit < 10; unit++) {
            x.unit(0, 6);
        }
        x.refuses(Check.IMPOSSIBLE, "unit", 0, 4);
        x.refuses(Check.LIMIT, "unit", 0, 3);
        x.passTo(7);
        for (int i = 1; i <= 40; i++) {
            x.send(0, 6, 0, 0, 60);
        }
        x.refuses(Check.LIMIT, "send", 0, 6, 0, 0, 1);
        x.refuses(Check.IMPOSSIBLE, "send", 0, 5, 0, 0, 1);
        x.refuses(Check.IMPOSSIBLE, "send", 0, 12, 0, 0, 1);
        x.takeOff(1);
        x.refuses(Check.IMPOSSIBLE, "send", 1, 6, 0, 0, 1);
        x.refuses(Check.LIMIT, "send", 2, 6, 0, 0, 1);
    }

    private static void invalidRatherThanTheOthers() {
        // No call can have both; INVALID_ARGUMENT goes ahead of each of them.
        Probe x = new Probe();
        for (int hub = 1; hub <= 4; hub++) {
            x.hub(0, 1);
        }
        for (int unit = 0; unit < 10; unit++) {
            x.unit(0, 1);
        }
        x.refuses(Check.INVALID, "hub", 0, 21);
        x.refuses(Check.INVALID, "hub", 5, 1);
        x.refuses(Check.INVALID, "unit", 0, 0);
        x.refuses(Check.INVALID, "unit", 5, 1);
        for (int i = 1; i <= 40; i++) {
            x.send(0, 0, 0, 0, 60);
        }
        x.due(Check.LIMIT, "send", 0, 0, 0, 0, 1);
        x.refuses(Check.INVALID, "send", 0, 0, 0, 0, 61);
        x.refuses(Check.INVALID, "send", 10, 0, 0, 0, 1);
        Probe y = new Probe();
        y.passTo(20000);
        y.due(Check.LIMIT, "pass", 1);
        y.due(Check.LIMIT, "pass", 100);
        y.due(Check.INVALID, "pass", 0);
        y.due(Check.INVALID, "pass", 101);
        Probe z = new Probe();
        for (int i = 0; i < 60; i++) {
            z.type('p');
        }
        z.due(Check.LIMIT, "type", 126);
        z.due(Check.INVALID, "type", 127);
        z.due(Check.INVALID, "type", 31);
        // Rather than NOT_FOUND.
        Probe w = new Probe();
        w.unit(0, 1);
        w.due(Check.ABSENT, "hubOf", 0, 5);
        w.due(Check.INVALID, "hubOf", 1, 5);
        w.due(Check.INVALID, "hubOf", 1, 13);
        w.due(Check.ABSENT, "unitAt", 0, 1);
        w.due(Check.INVALID, "unitAt", 1, 1);
        w.due(Check.ABSENT, "slotAt", 0, 0, 0);
        w.due(Check.INVALID, "slotAt", 0, 0, 6);
        w.due(Check.INVALID, "slotAt", 1, 0, 0);
        w.due(Check.INVALID, "slotAt", 0, -1, 0);
        w.due(Check.ABSENT, "outAt", 0, 0);
        w.due(Check.INVALID, "outAt", 0, 5);
        w.due(Check.INVALID, "outAt", -1, 0);
        w.due(Check.ABSENT, "readingAt", 0, 0, 0);
        w.due(Check.INVALID, "readingAt", 0, 1, 0);
        w.due(Check.INVALID, "readingAt", 0, 0, 2);
        w.due(Check.ABSENT, "heldBy", 0, 0, 0);
        w.due(Check.INVALID, "heldBy", 0, 0, 2);
        w.due(Check.INVALID, "heldBy", 0, 1, 0);
        w.due(Check.INVALID, "heldBy", 1, 0, 0);
        w.due(Check.ABSENT, "foresee", 1);
        w.due(Check.INVALID, "foresee", 0);
        w.due(Check.ABSENT, "count", 8);
        w.due(Check.INVALID, "count", 11);
        w.due(Check.ABSENT, "fault", 0);
        w.due(Check.INVALID, "fault", 2);
    }

    private static void errorsChangeNothing() {
        Probe x = StatesTest.busy();
        Check.text(x, "m0,0,5;p9;x1;p0;");
        x.refuses(Check.INVALID, "hub", 4, 1);
        x.refuses(Check.INVALID, "hub", 0, 0);
        x.refuses(Check.IMPOSSIBLE, "hub", 0, 3);
        x.refuses(Check.INVALID, "unit", -1, 1);
        x.refuses(Check.INVALID, "unit", 0, 21);
        x.refuses(Check.IMPOSSIBLE, "unit", 0, 3);
        x.refuses(Check.INVALID, "takeOff", 6);
        x.refuses(Check.IMPOSSIBLE, "takeOff", 5);
        x.refuses(Check.INVALID, "set", 1, 0, 41);
        x.refuses(Check.INVALID, "set", 1, 5, 0);
        x.refuses(Check.IMPOSSIBLE, "set", 1, 4, 4);
        x.refuses(Check.INVALID, "send", 0, 0, 0, 16, 1);
        x.refuses(Check.IMPOSSIBLE, "send", 5, 0, 0, 0, 1);
        x.refuses(Check.IMPOSSIBLE, "send", 0, 5, 0, 0, 1);
        x.refuses(Check.INVALID, "pass", 0);
        x.refuses(Check.INVALID, "pass", 101);
        x.refuses(Check.INVALID, "type", 31);
        x.refuses(Check.IMPOSSIBLE, "play");
        x.refuses(Check.INVALID, "hubOf", 4, 0);
        x.refuses(Check.INVALID, "unitOf", 0, 7);
        x.refuses(Check.ABSENT, "unitAt", 0, 5);
        x.refuses(Check.INVALID, "slotAt", 0, -1, 0);
        x.refuses(Check.INVALID, "outAt", -1, 0);
        x.refuses(Check.INVALID, "readingAt", 0, 6, 0);
        x.refuses(Check.INVALID, "heldBy", 0, 0, 2);
        x.refuses(Check.INVALID, "foresee", 201);
        x.refuses(Check.INVALID, "count", 11);
        x.refuses(Check.INVALID, "fault", 2);
        while (x.call("undo") > 0) {
            x.due(4, "count", 0);
        }
        x.refuses(Check.IMPOSSIBLE, "undo");
        // At the limits.
        Probe y = new Probe();
        for (int hub = 1; hub <= 4; hub++) {
            y.hub(0, 1);
        }
        for (int unit = 0; unit < 10; unit++) {
            y.unit(0, 1);
        }
        y.refuses(Check.LIMIT, "hub", 0, 1);
        y.refuses(Check.LIMIT, "unit", 0, 1);
        for (int i = 1; i <= 40; i++) {
            y.send(0, 0, i, 0, 60);
        }
        y.refuses(Check.LIMIT, "send", 1, 0, 0, 0, 1);
        Check.text(y, "p1;".repeat(20));
        y.refuses(Check.LIMIT, "type", 'p');
        Probe z = new Probe();
        z.unit(0, 1);
        z.passTo(19990);
        z.send(0, 19990, 0, 0, 5);
        z.refuses(Check.LIMIT, "pass", 11);
    }

    private static void noSuchNumber() {
        Probe x = new Probe();
        x.hub(0, 1);
        x.unit(1, 1);
        x.unit(1, 1);
        for (int i = 0; i <= NO_NUMBERS.length; i++) {
            // The first number that there is not, and others.
            int hub = i == 0 ? 2 : NO_NUMBERS[i - 1];
            x.refuses(Check.INVALID, "hub", hub, 1);
            x.refuses(Check.INVALID, "unit", hub, 1);
            x.refuses(Check.INVALID, "set", hub, 0, 0);
            x.due(Check.INVALID, "hubOf", hub, 0);
            x.due(Check.INVALID, "unitAt", hub, 0);
            x.due(Check.INVALID, "slotAt", hub, 0, 0);
            x.due(Check.INVALID, "heldBy", hub, 0, 0);
            int unit = hub;
            x.refuses(Check.INVALID, "takeOff", unit);
            x.refuses(Check.INVALID, "send", unit, 0, 0, 0, 1);
            x.due(Check.INVALID, "unitOf", unit, 0);
            x.due(Check.INVALID, "readingAt", 0, unit, 0);
            x.due(Check.INVALID, "heldBy", 0, unit, 0);
        }
        // The last numbers that there are.
        x.due(0, "set", 1, 0, 0);
        x.due(2, "unitOf", 1, 6);
        // One that was undone is none any more.
        x.hub(0, 1);
        x.unit(0, 1);
        x.undo();
        x.due(Check.INVALID, "unitOf", 2, 0);
        x.due(0, "hubOf", 2, 5);
        x.undo();
        x.due(Check.INVALID, "hubOf", 2, 5);
    }

    private static void numbersAreKept() {
        Probe x = new Probe();
        x.unit(0, 1);
        x.unit(0, 1);
        x.send(0, 0, 5, 2, 1);
        x.pass(1);
        x.takeOff(0);
        x.refuses(Check.IMPOSSIBLE, "takeOff", 0);
        x.refuses(Check.IMPOSSIBLE, "send", 0, 0, 0, 0, 1);
        x.due(1, "unitOf", 0, 1);
        x.due(5, "readingAt", 0, 0, 0);
        x.due(2, "heldBy", 0, 0, 1);
        x.due(1, "unitAt", 0, 0);
        x.due(2, "unit", 0, 1);
        x.takeOff(2);
        x.due(3, "unit", 0, 1);
        x.due(Check.INVALID, "unitOf", 4, 0);
    }
}
