/** Promise 22: play. */
public final class P22PlayTest {
    public static void main(String[] args) {
        Probe x = new Probe();
        Check.due("play()", x.play(), 0);
        Check.due("count(9)", x.count(9), 1);
        x.unit(0, 1);
        x.unit(0, 1);
        Check.text(x, "m0,0,-5;m1,0,7;p2;x1;m0,2,100000;p1;");
        Check.due("play()", x.play(), 6);
        Check.due("count(9)", x.count(9), 4);
        Check.due("count(10)", x.count(10), 36);
        Check.due("count(2)", x.count(2), 3);
        Check.due("count(1)", x.count(1), 1);
        Check.due("count(4)", x.count(4), 2);
        Check.due("unitOf(0, 3)", x.unitOf(0, 3), 2);
        Check.due("outAt(1, 1)", x.outAt(1, 1), 1);
        Check.due("readingAt(1, 0, 0)", x.readingAt(1, 0, 0), -5);
        Check.due("readingAt(1, 0, 1)", x.readingAt(1, 0, 1), 0);
        Check.due("readingAt(1, 1, 0)", x.readingAt(1, 1, 0), 7);
        Check.due("readingAt(0, 0, 0)", x.readingAt(0, 0, 0), 100000);
        // Once more it is not possible, as unit 1 was taken off; then nothing of it is done.
        Check.due("play()", x.play(), Check.IMPOSSIBLE);
        Check.due("count(2)", x.count(2), 3);
        Check.due("count(3)", x.count(3), 0);
        Check.due("count(9)", x.count(9), 4);
        // All of it is one change.
        Check.due("undo()", x.undo(), 3);
        Check.due("count(2)", x.count(2), 0);
        Check.due("count(1)", x.count(1), 2);
        Check.due("unitOf(0, 3)", x.unitOf(0, 3), 0);
        Check.due("count(10)", x.count(10), 36);
        Check.due("play()", x.play(), 6);
        Check.due("count(4)", x.count(4), 2);
        Check.text(x, "p1;p1;p1;p1;p1;p1;p1;p1;p1;p1;p1;p1;p1;p1;p1;p1;p1;p1;p1;p1;");
        Check.due("play()", x.play(), 20);
        Check.due("count(2)", x.count(2), 23);
        Check.due("play()", x.play(), 20);
        Check.due("count(2)", x.count(2), 43);
        x.clearText();
        Check.due("play()", x.play(), 0);
        Check.due("undo()", x.undo(), 3);
        Check.due("count(2)", x.count(2), 43);
        Check.due("undo()", x.undo(), 2);
        Check.due("count(2)", x.count(2), 23);
        Check.text(x, "p1");
        Check.due("play()", x.play(), Check.IMPOSSIBLE);
        Check.end();
    }
}
