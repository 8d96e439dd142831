/** The sentences of the promises 19 to 22. */
final class TextPromises {
    private TextPromises() {
    }

    static void tests(Sentences s) {
        type(s);
        clearText(s);
        fault(s);
        play(s);
    }

    private static void type(Sentences s) {
        s.section("Promise 19: type");
        s.test("Appends a character to the text.", () -> {
            Probe x = new Probe();
            x.due(1, "type", 'p');
            x.due(2, "type", '7');
            x.due(1, "fault", 1);
            x.due(3, "type", ';');
            x.due(Check.ABSENT, "fault", 1);
            x.due(1, "play");
            x.due(7, "count", 2);
        });
        s.test("- `character`: 32 to 126", () -> {
            TreePromises.outOfRange(new Probe(), "type", new int[] {32}, 0, -1, 0, 10, 30, 31, 127, 128, 255, 65536 + 'p');
            for (int character = 32; character <= 126; character++) {
                new Probe().due(1, "type", character);
            }
        });
        s.test("Returns the length of the text;", () -> {
            Probe x = new Probe();
            for (int length = 1; length <= 60; length++) {
                x.due(length, "type", 66 + length);
                x.due(length, "count", 10);
            }
            x.clearText();
            x.due(1, "type", 32);
        });
        s.test("INVALID_ARGUMENT if character is out of range;", () -> {
            Probe x = new Probe();
            x.refuses(Check.INVALID, "type", 31);
            x.refuses(Check.INVALID, "type", 127);
            x.due(1, "type", 32);
            x.due(2, "type", 126);
            x.refuses(Check.INVALID, "type", 31);
            x.refuses(Check.INVALID, "type", 127);
        });
        s.test("LIMIT_REACHED if it has 60 characters.", () -> {
            Probe x = new Probe();
            Check.text(x, "p1;".repeat(19) + "p1");
            x.due(60, "type", ';');
            x.refuses(Check.LIMIT, "type", ';');
            x.refuses(Check.LIMIT, "type", 32);
            x.refuses(Check.LIMIT, "type", 126);
            x.refuses(Check.INVALID, "type", 31);
            x.due(20, "play");
            x.refuses(Check.LIMIT, "type", ';');
        });
    }

    private static void clearText(Sentences s) {
        s.section("Promise 20: clearText");
        s.test("Empties the text.", () -> {
            Probe x = new Probe();
            Check.text(x, "q");
            x.due(0, "fault", 0);
            x.clearText();
            x.due(0, "count", 10);
            x.due(Check.ABSENT, "fault", 0);
            x.due(0, "play");
            // Nothing of it is left behind a shorter one.
            Check.text(x, "p1;p1;p1;");
            x.clearText();
            x.type('p');
            x.due(0, "fault", 0);
            x.type('2');
            x.type(';');
            x.due(1, "play");
            x.due(2, "count", 2);
        });
        s.test("Returns the length it had.", () -> {
            Probe x = new Probe();
            x.due(0, "clearText");
            x.due(0, "clearText");
            for (int length : new int[] {1, 2, 59, 60}) {
                for (int i = 0; i < length; i++) {
                    x.type('p');
                }
                x.due(length, "clearText");
                x.due(0, "clearText");
            }
            // It is no change.
            x.due(0, "count", 9);
        });
    }

    private static void fault(Sentences s) {
        s.section("Promise 21: fault");
        s.test("Tells about the fault of the text.", () -> {
            Probe x = new Probe();
            x.unit(0, 1);
            Check.text(x, "p1;x7;");
            x.changesNothing("fault", 0);
            x.changesNothing("fault", 1);
            x.due(3, "fault", 0);
            // It is another one when the tree is another one.
            Check.text(x, "m0,1,5;");
            x.due(3, "fault", 1);
            x.pass(1);
            x.due(Check.ABSENT, "fault", 1);
            x.undo();
            x.due(3, "fault", 1);
        });
        s.test("- `what`: 0: its position;", () -> {
            Check.fault(new Probe(), "q", 0, 1);
            Check.fault(new Probe(), "p1;q", 3, 1);
            Check.fault(new Probe(), "p1;".repeat(19) + "p10", 57, 1);
            Check.fault(new Probe(), "p10;p10;" + "p1;".repeat(17) + ";", 59, 1);
        });
        s.test("1: its reason", () -> {
            Probe x = new Probe();
            x.unit(0, 1);
            Check.fault(x, "x0", 0, 1);
            Check.fault(x, "x1;", 0, 2);
            Check.fault(x, "x0;x0;", 3, 3);
        });
        s.test("Returns that;", () -> Check.fault(new Probe(), "x0;", 0, 2));
        s.test("INVALID_ARGUMENT if what is out of range;", () -> {
            Probe x = new Probe();
            TreePromises.outOfRange(x, "fault", new int[] {0}, 0, -1, 2, 3);
            Check.text(x, "q");
            TreePromises.outOfRange(x, "fault", new int[] {0}, 0, -1, 2, 3);
            Check.text(x, "p1;");
            x.refuses(Check.INVALID, "fault", 2);
        });
        s.test("NOT_FOUND if the text has no fault (also if it is empty).", () -> {
            Probe x = new Probe();
            x.refuses(Check.ABSENT, "fault", 0);
            x.refuses(Check.ABSENT, "fault", 1);
            Check.text(x, "p1;");
            x.refuses(Check.ABSENT, "fault", 0);
            x.refuses(Check.ABSENT, "fault", 1);
            Check.text(x, "p1;".repeat(20));
            x.due(Check.ABSENT, "fault", 0);
            x.clearText();
            x.due(Check.ABSENT, "fault", 0);
        });
    }

    private static void play(Sentences s) {
        s.section("Promise 22: play");
        s.test("Does all orders of the text, which stays.", () -> {
            Probe x = new Probe();
            x.unit(0, 1);
            x.unit(0, 1);
            Check.text(x, "m0,0,7;p3;m0,3,8;x1;p1;");
            x.due(5, "play");
            x.due(4, "count", 2);
            x.due(1, "count", 1);
            x.due(2, "count", 4);
            x.due(8, "readingAt", 0, 0, 0);
            x.due(7, "readingAt", 1, 0, 0);
            x.due(4, "outAt", 0, 1);
            x.due(1, "outAt", 1, 1);
            x.due(23, "count", 10);
            // The same once more, as far as it is possible then.
            x.due(17, "fault", 0);
            x.refuses(Check.IMPOSSIBLE, "play");
            Check.text(x, "p1;");
            x.due(1, "play");
            x.due(1, "play");
            x.due(6, "count", 2);
        });
        s.test("They are one change, also if there are none.", () -> {
            Probe x = new Probe();
            x.unit(0, 1);
            for (String text : new String[] {"", "p1;", "p1;p2;m0,0,5;p1;x0;"}) {
                Check.text(x, text);
                x.due(1, "count", 9);
                Check.holds("play of " + text, x.play() >= 0);
                x.due(2, "count", 9);
                x.due(1, "undo");
                x.due(0, "count", 2);
                x.due(0, "unitOf", 0, 2);
                x.due(0, "unitOf", 0, 3);
            }
            // Of none: the state is recorded, and the oldest one dropped.
            Probe y = new Probe();
            for (int i = 0; i < 4; i++) {
                y.pass(1);
            }
            y.due(0, "play");
            y.due(4, "count", 9);
            for (int time : new int[] {4, 3, 2, 1}) {
                y.undo();
                y.due(time, "count", 2);
            }
            y.due(Check.IMPOSSIBLE, "undo");
        });
        s.test("Returns how many there are in it;", () -> {
            for (int many = 0; many <= 20; many++) {
                Probe x = new Probe();
                Check.text(x, "p1;".repeat(many));
                x.due(many, "play");
                x.due(many, "count", 2);
            }
        });
        s.test("NOT_POSSIBLE if it has a fault.", () -> {
            String[] texts = {"q", "p1;p1", "p1;x1;", "p1;p0;", "m0,0,5;p1;x0;x0;", " "};
            for (String text : texts) {
                Probe x = new Probe();
                x.unit(0, 1);
                Check.text(x, text);
                x.refuses(Check.IMPOSSIBLE, "play");
            }
        });
    }
}
