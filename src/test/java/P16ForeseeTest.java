/** Promise 16: foresee. */
public final class P16ForeseeTest {
    public static void main(String[] args) {
        Probe x = new Probe();
        Check.due("foresee(0)", x.foresee(0), Check.INVALID);
        Check.due("foresee(201)", x.foresee(201), Check.INVALID);
        Check.due("foresee(-1)", x.foresee(-1), Check.INVALID);
        Check.due("foresee(1)", x.foresee(1), Check.ABSENT);
        Check.due("foresee(200)", x.foresee(200), Check.ABSENT);
        x.unit(0, 1);
        x.unit(0, 1);
        x.set(0, 1, 1);
        x.set(0, 0, 40);
        x.pass(10);
        x.send(0, 4, 1, 0, 60);
        x.send(0, 7, 1, 0, 3);
        Check.due("foresee(42)", x.foresee(42), Check.ABSENT);
        Check.due("foresee(43)", x.foresee(43), 7);
        Check.due("foresee(200)", x.foresee(200), 7);
        x.send(1, 7, 1, 0, 5);
        x.send(0, 9, 1, 0, 50);
        Check.due("foresee(4)", x.foresee(4), Check.ABSENT);
        Check.due("foresee(5)", x.foresee(5), 7);
        Check.due("foresee(89)", x.foresee(89), 7);
        Check.due("foresee(90)", x.foresee(90), 9);
        Check.due("count(2)", x.count(2), 10);
        Check.due("count(3)", x.count(3), 4);
        Check.due("count(9)", x.count(9), 4);
        x.pass(5);
        Check.due("foresee(1)", x.foresee(1), 7);
        Check.due("outAt(0, 0)", x.outAt(0, 0), 7);
        Check.due("foresee(85)", x.foresee(85), 9);
        // As far as 200 ticks.
        Probe y = new Probe();
        for (int hub = 0; hub < 4; hub++) {
            y.hub(hub, 1);
            y.set(hub + 1, 3, 20);
        }
        y.unit(4, 1);
        y.unit(4, 1);
        y.unit(3, 1);
        y.set(4, 1, 1);
        y.set(4, 0, 40);
        y.set(3, 1, 1);
        y.set(3, 0, 20);
        y.send(0, 0, 1, 0, 60);
        Check.due("foresee(199)", y.foresee(199), Check.ABSENT);
        Check.due("foresee(200)", y.foresee(200), 0);
        Check.end();
    }
}
