/** Promise 9: send. */
public final class P09SendTest {
    public static void main(String[] args) {
        ranges();
        notPossible();
        fortyOnTheirWay();
        moreThanForty();
        allTenUnits();
        Check.end();
    }

    private static void allTenUnits() {
        Probe x = new Probe();
        for (int unit = 0; unit < 10; unit++) {
            x.unit(0, 1);
        }
        for (int unit = 0; unit < 10; unit++) {
            send(x, unit + 1, unit, 0, 5 - unit, unit, 1);
        }
        for (int unit = 0; unit < 10; unit++) {
            Check.due("unitOf(" + unit + ", 4)", x.unitOf(unit, 4), 1);
        }
        x.pass(1);
        Check.due("outAt(0, 3)", x.outAt(0, 3), 10);
        for (int unit = 0; unit < 10; unit++) {
            Check.due("readingAt(0, " + unit + ", 0)", x.readingAt(0, unit, 0), 5 - unit);
            Check.due("readingAt(0, " + unit + ", 1)", x.readingAt(0, unit, 1), unit);
        }
    }

    private static void send(Probe x, int due, int... a) {
        Check.due("send(" + java.util.Arrays.toString(a) + ")", x.send(a[0], a[1], a[2], a[3], a[4]), due);
    }

    private static void ranges() {
        Probe x = new Probe();
        send(x, Check.INVALID, 0, 0, 0, 0, 1);
        x.unit(0, 1);
        send(x, Check.INVALID, -1, 0, 0, 0, 1);
        send(x, Check.INVALID, 1, 0, 0, 0, 1);
        send(x, Check.INVALID, 0, -1, 0, 0, 1);
        send(x, Check.INVALID, 0, 20001, 0, 0, 1);
        send(x, Check.INVALID, 0, 0, 100001, 0, 1);
        send(x, Check.INVALID, 0, 0, -100001, 0, 1);
        send(x, Check.INVALID, 0, 0, Integer.MIN_VALUE, 0, 1);
        send(x, Check.INVALID, 0, 0, 0, -1, 1);
        send(x, Check.INVALID, 0, 0, 0, 16, 1);
        send(x, Check.INVALID, 0, 0, 0, 0, 0);
        send(x, Check.INVALID, 0, 0, 0, 0, 61);
        Check.due("count(9)", x.count(9), 1);
        send(x, 1, 0, 0, 100000, 15, 1);
        send(x, 2, 0, 0, -100000, 0, 60);
        Check.due("count(9)", x.count(9), 3);
        Check.due("unitOf(0, 3)", x.unitOf(0, 3), 2);
        x.pass(1);
        Check.due("readingAt(0, 0, 0)", x.readingAt(0, 0, 0), 100000);
        Check.due("readingAt(0, 0, 1)", x.readingAt(0, 0, 1), 15);
        x.pass(58);
        Check.due("count(3)", x.count(3), 1);
        x.pass(1);
        Check.due("count(3)", x.count(3), 0);
        Check.due("count(6)", x.count(6), 1);
    }

    private static void notPossible() {
        Probe x = new Probe();
        x.unit(0, 3);
        x.unit(0, 1);
        x.pass(7);
        send(x, Check.IMPOSSIBLE, 0, 5, 0, 0, 1);
        send(x, Check.IMPOSSIBLE, 0, 9, 0, 0, 1);
        send(x, Check.IMPOSSIBLE, 1, 8, 0, 0, 1);
        send(x, Check.IMPOSSIBLE, 1, 20000, 0, 0, 1);
        send(x, 1, 0, 6, 0, 0, 1);
        send(x, 2, 1, 7, 0, 0, 1);
        send(x, 3, 0, 0, 0, 0, 1);
        x.takeOff(1);
        send(x, Check.IMPOSSIBLE, 1, 7, 0, 0, 1);
        send(x, Check.INVALID, 1, 7, 0, 16, 1);
        send(x, Check.INVALID, 0, 5, 100001, 0, 1);
    }

    private static void fortyOnTheirWay() {
        Probe x = new Probe();
        x.unit(0, 2);
        for (int i = 1; i <= 40; i++) {
            send(x, i, 0, 0, i, 0, 2);
        }
        send(x, Check.LIMIT, 0, 0, 0, 0, 2);
        send(x, Check.IMPOSSIBLE, 0, 1, 0, 0, 2);
        send(x, Check.INVALID, 0, 0, 0, 0, 61);
        Check.due("count(3)", x.count(3), 40);
        Check.due("unitOf(0, 3)", x.unitOf(0, 3), 40);
        Check.due("undo()", x.undo(), 3);
        send(x, 40, 0, 0, 0, 0, 1);
        x.pass(1);
        send(x, 40, 0, 0, 0, 0, 1);
        x.pass(1);
        Check.due("count(3)", x.count(3), 0);
        // The slot 0 went out by the first one; all others are late.
        Check.due("count(6)", x.count(6), 40);
    }

    private static void moreThanForty() {
        // What hubs release may make it more than 40 on their way; it's the sending that is refused.
        Probe x = new Probe();
        x.hub(0, 1);
        x.unit(1, 1);
        x.unit(1, 1);
        x.unit(0, 1);
        x.set(1, 0, 40);
        x.set(1, 1, 1);
        x.set(1, 3, 20);
        x.pass(100);
        for (int i = 0; i < 50; i++) {
            x.send(0, i, i, 0, 1 + i / 25);
            if (i == 24) {
                x.pass(1);
            }
        }
        x.pass(2);
        Check.due("hubOf(1, 9)", x.hubOf(1, 9), 50);
        x.set(1, 0, 0);
        x.pass(1);
        Check.due("hubOf(1, 14)", x.hubOf(1, 14), 50);
        Check.due("count(3)", x.count(3), 50);
        send(x, Check.LIMIT, 2, 0, 0, 0, 1);
        Check.due("undo()", x.undo(), 3);
        send(x, 1, 2, 0, 0, 0, 1);
        Check.due("count(3)", x.count(3), 1);
        x.pass(1);
        x.pass(20);
        Check.due("count(3)", x.count(3), 0);
        Check.due("hubOf(0, 13)", x.hubOf(0, 13), 49);
    }
}
