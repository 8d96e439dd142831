/** Promise 7: unitOf. */
public final class P07UnitOfTest {
    public static void main(String[] args) {
        Probe x = new Probe();
        x.hub(0, 2);
        x.hub(1, 4);
        x.hub(0, 6);
        x.unit(2, 8);
        x.unit(0, 5);
        x.unit(3, 3);
        x.set(0, 3, 7);
        x.set(1, 3, 20);
        x.set(2, 3, 19);
        x.set(3, 3, 1);
        int[][] facts = {{2, 8, 0, 0, 0, 39, 3}, {0, 5, 0, 0, 0, 0, 1}, {3, 3, 0, 0, 0, 1, 2}};
        for (int unit = 0; unit < facts.length; unit++) {
            for (int what = 0; what < 7; what++) {
                Check.due("unitOf(" + unit + ", " + what + ")", x.unitOf(unit, what), facts[unit][what]);
            }
        }
        x.send(0, 0, 1, 0, 1);
        x.send(0, 0, 1, 0, 2);
        x.send(1, 0, 1, 0, 2);
        Check.due("unitOf(0, 3)", x.unitOf(0, 3), 2);
        Check.due("unitOf(0, 4)", x.unitOf(0, 4), 2);
        Check.due("unitOf(1, 3)", x.unitOf(1, 3), 1);
        Check.due("unitOf(2, 4)", x.unitOf(2, 4), 0);
        x.pass(1);
        // What its hub released is no frame on its way to its hub.
        Check.due("hubOf(2, 14)", x.hubOf(2, 14), 1);
        Check.due("unitOf(0, 4)", x.unitOf(0, 4), 1);
        x.pass(1);
        Check.due("unitOf(0, 3)", x.unitOf(0, 3), 2);
        Check.due("unitOf(0, 4)", x.unitOf(0, 4), 0);
        x.takeOff(0);
        Check.due("unitOf(0, 2)", x.unitOf(0, 2), 1);
        Check.due("unitOf(0, 0)", x.unitOf(0, 0), 2);
        Check.due("unitOf(0, 3)", x.unitOf(0, 3), 2);
        Check.due("unitOf(0, 6)", x.unitOf(0, 6), 3);
        Check.due("unitOf(0, 7)", x.unitOf(0, 7), Check.INVALID);
        Check.due("unitOf(0, -1)", x.unitOf(0, -1), Check.INVALID);
        Check.due("unitOf(3, 0)", x.unitOf(3, 0), Check.INVALID);
        Check.due("unitOf(-1, 0)", x.unitOf(-1, 0), Check.INVALID);
        Check.end();
    }
}
