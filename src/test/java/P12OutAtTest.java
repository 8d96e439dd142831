/** Promise 12: outAt. */
public final class P12OutAtTest {
    private static void expect(Probe x, int index, int... facts) {
        for (int what = 0; what < facts.length; what++) {
            Check.due("outAt(" + index + ", " + what + ")", x.outAt(index, what), facts[what]);
        }
    }

    public static void main(String[] args) {
        Probe x = new Probe();
        x.unit(0, 1);
        x.unit(0, 2);
        Check.due("outAt(0, 0)", x.outAt(0, 0), Check.ABSENT);
        x.send(0, 0, 3, 2, 2);
        x.send(1, 0, 4, 8, 2);
        x.pass(2);
        expect(x, 0, 0, 2, 10, 2, 0);
        x.send(0, 1, 5, 1, 1);
        x.pass(1);
        expect(x, 0, 1, 3, 128 + 8 + 1, 2, 0);
        expect(x, 1, 0, 2, 10, 2, 0);
        x.send(0, 2, 6, 4, 1);
        x.pass(1);
        expect(x, 0, 2, 4, 16 + 4, 1, 1);
        x.unit(0, 1);
        expect(x, 0, 2, 4, 16 + 4, 1, 1);
        for (int i = 4; i < 11; i++) {
            x.send(2, i, i, 0, 1);
            x.pass(1);
            Check.due("count(4)", x.count(4), i);
            expect(x, 0, i, i + 1);
        }
        // The latest 8 of the 10 outputs are kept.
        expect(x, 0, 10, 11, 16, 1, 2);
        expect(x, 1, 9, 10, 16 + 128 + 8, 2, 1);
        expect(x, 6, 4, 5);
        expect(x, 7, 2, 4, 16 + 4, 1, 1);
        expect(x, 8, Check.ABSENT, Check.ABSENT, Check.ABSENT, Check.ABSENT, Check.ABSENT);
        Check.due("outAt(2147483647, 0)", x.outAt(Integer.MAX_VALUE, 0), Check.ABSENT);
        Check.due("count(5)", x.count(5), 8);
        Check.due("outAt(-1, 0)", x.outAt(-1, 0), Check.INVALID);
        Check.due("outAt(0, -1)", x.outAt(0, -1), Check.INVALID);
        Check.due("outAt(0, 5)", x.outAt(0, 5), Check.INVALID);
        Check.due("outAt(8, 5)", x.outAt(8, 5), Check.INVALID);
        // One that was dropped is there again after undo.
        Check.due("undo()", x.undo(), 3);
        expect(x, 0, 9, 10);
        expect(x, 7, 1, 3, 128 + 8 + 1, 2, 0);
        Check.end();
    }
}
