/** Promise 21: fault. */
public final class P21FaultTest {
    public static void main(String[] args) {
        arguments();
        form();
        noSuchUnit();
        notPossible();
        whenThoseAheadAreDone();
        limits();
        Check.end();
    }

    private static Probe withUnits() {
        Probe x = new Probe();
        x.unit(0, 1);
        x.unit(0, 2);
        x.pass(10);
        return x;
    }

    private static void arguments() {
        Probe x = new Probe();
        Check.due("fault(-1)", x.fault(-1), Check.INVALID);
        Check.due("fault(2)", x.fault(2), Check.INVALID);
        Check.due("fault(0)", x.fault(0), Check.ABSENT);
        Check.due("fault(1)", x.fault(1), Check.ABSENT);
        Check.text(x, "!");
        Check.due("fault(2)", x.fault(2), Check.INVALID);
        Check.due("fault(0)", x.fault(0), 0);
    }

    private static void form() {
        Probe x = withUnits();
        String[] wrong = {" ", ";", "p", "p;", "p1", "p1,", "p1,;", "p-1;", "p+1;", "p 1;", "P1;", "p0000001;", "p1x;",
            "m", "m0", "m0;", "m0,1", "m0,1;", "m0,1,", "m0,1,;", "m0,1,-", "m0,1,-;", "m0,1,--2;", "m0,1,2", "m0,1,2,",
            "m0,1,2,3;", "m,1,2;", "m0,,2;", "m-0,1,2;", "m0,-1,2;", "m0,1,0000002;", "m0,1,-0000002;", "m0,0000001,2;",
            "m0000000,1,2;", "m0 ,1,2;", "x", "x;", "x-1;", "x0", "x0,", "x0000000;", "xx0;", "0;", "-", "~"};
        for (String text : wrong) {
            Check.fault(x, text, 0, 1);
            Check.fault(x, "p1;" + text, 3, 1);
            Check.fault(x, "p1;" + text + "p1;", 3, 1);
        }
        Check.fault(x, "p1; p1;", 3, 1);
        Check.fault(x, "p1;;", 3, 1);
        String[] right = {"p1;", "p000001;", "p100;", "m0,1,2;", "m0,0,-0;", "m1,000010,-100000;", "m000001,2,100000;",
            "x0;", "x000001;", "p1;m0,11,-7;p1;x0;x1;", ""};
        for (String text : right) {
            Check.fault(x, text, Check.ABSENT, Check.ABSENT);
        }
    }

    private static void noSuchUnit() {
        Probe x = withUnits();
        Check.fault(x, "x2;", 0, 2);
        Check.fault(x, "x999999;", 0, 2);
        Check.fault(x, "p1;m2,0,0;", 3, 2);
        // Rather no such unit than another number out of range; rather the form than both.
        Check.fault(x, "m2,999999,999999;", 0, 2);
        Check.fault(x, "m2,999999,999999", 0, 1);
        Check.fault(x, "x2", 0, 1);
        // Ticks are no unit.
        Check.fault(x, "p3;", Check.ABSENT, Check.ABSENT);
    }

    private static void notPossible() {
        Probe x = withUnits();
        String[] texts = {"p0;", "p101;", "p999999;", "m0,11,0;", "m0,20001,0;", "m1,3,0;", "m0,0,100001;",
            "m0,0,-100001;", "m0,0,999999;"};
        for (String text : texts) {
            Check.fault(x, text, 0, 3);
            Check.fault(x, "p1;x0;" + text, 6, 3);
        }
        x.takeOff(1);
        Check.fault(x, "x1;", 0, 3);
        Check.fault(x, "m1,2,0;", 0, 3);
    }

    private static void whenThoseAheadAreDone() {
        Probe x = withUnits();
        Check.fault(x, "m0,11,0;", 0, 3);
        Check.fault(x, "p1;m0,11,0;", Check.ABSENT, Check.ABSENT);
        Check.fault(x, "x0;m0,1,0;", 3, 3);
        Check.fault(x, "x0;x0;", 3, 3);
        Check.fault(x, "x0;x1;q;x0;", 6, 1);
        Check.fault(x, "x1;x1;q", 3, 3);
        // Nothing of it is done.
        Check.due("count(2)", x.count(2), 10);
        Check.due("count(1)", x.count(1), 2);
        Check.due("count(9)", x.count(9), 3);
    }

    private static void limits() {
        Probe x = withUnits();
        for (int i = 0; i < 38; i++) {
            x.send(0, 0, 0, 0, 2);
        }
        Check.fault(x, "m0,1,1;m0,1,1;", Check.ABSENT, Check.ABSENT);
        Check.fault(x, "m0,1,1;m0,1,1;m0,1,1;", 14, 3);
        // After two ticks there is room again; a frame of an order is on its way for one tick.
        Check.fault(x, "m0,1,1;m0,1,1;p1;m0,1,1;m0,1,1;m0,1,1;", 31, 3);
        Check.fault(x, "m0,1,1;m0,1,1;p2;m0,1,1;m0,1,1;m0,1,1;", Check.ABSENT, Check.ABSENT);
        Probe y = new Probe();
        for (int i = 0; i < 199; i++) {
            y.pass(100);
        }
        Check.fault(y, "p99;p1;", Check.ABSENT, Check.ABSENT);
        Check.fault(y, "p99;p1;p1;", 7, 3);
        Check.fault(y, "p99;p2;", 4, 3);
    }
}
