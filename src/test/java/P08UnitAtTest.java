/** Promise 8: unitAt. */
public final class P08UnitAtTest {
    private static void expect(Probe x, int hub, int... units) {
        for (int i = 0; i < units.length; i++) {
            Check.due("unitAt(" + hub + ", " + i + ")", x.unitAt(hub, i), units[i]);
        }
        Check.due("unitAt(" + hub + ", " + units.length + ")", x.unitAt(hub, units.length), Check.ABSENT);
    }

    public static void main(String[] args) {
        Probe x = new Probe();
        expect(x, 0);
        x.hub(0, 1);
        x.hub(1, 1);
        x.hub(0, 1);
        x.unit(2, 1);
        x.unit(0, 1);
        x.unit(1, 1);
        x.unit(3, 1);
        x.unit(2, 1);
        expect(x, 0, 0, 1, 2, 3, 4);
        expect(x, 1, 0, 2, 4);
        expect(x, 2, 0, 4);
        expect(x, 3, 3);
        x.takeOff(0);
        expect(x, 0, 1, 2, 3, 4);
        expect(x, 1, 2, 4);
        expect(x, 2, 4);
        Check.due("unitAt(0, 2147483647)", x.unitAt(0, Integer.MAX_VALUE), Check.ABSENT);
        Check.due("unitAt(0, -1)", x.unitAt(0, -1), Check.INVALID);
        Check.due("unitAt(4, 0)", x.unitAt(4, 0), Check.INVALID);
        Check.due("unitAt(4, 9)", x.unitAt(4, 9), Check.INVALID);
        Check.due("unitAt(-1, 0)", x.unitAt(-1, 0), Check.INVALID);
        Check.end();
    }
}
