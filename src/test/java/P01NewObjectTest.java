/** Promise 1: a new object. */
public final class P01NewObjectTest {
    public static void main(String[] args) {
        Probe x = new Probe();
        int[] root = {0, 0, 0, 0, 1, Check.ABSENT, 0, 0, 0, 0, 0, 0, 0, Check.ABSENT, 0};
        for (int what = 0; what < root.length; what++) {
            Check.due("hubOf(0, " + what + ")", x.hubOf(0, what), root[what]);
        }
        int[] counts = {1, 0, 0, 0, 0, 0, 0, 0, Check.ABSENT, 0, 0};
        for (int what = 0; what < counts.length; what++) {
            Check.due("count(" + what + ")", x.count(what), counts[what]);
        }
        Check.due("hubOf(1, 0)", x.hubOf(1, 0), Check.INVALID);
        Check.due("unitOf(0, 0)", x.unitOf(0, 0), Check.INVALID);
        Check.due("undo()", x.undo(), Check.IMPOSSIBLE);
        Check.due("nextOut()", x.nextOut(), Check.ABSENT);
        // Two objects have nothing in common.
        Probe other = new Probe();
        Check.due("hub(0, 3) of another one", other.hub(0, 3), 1);
        Check.due("count(0)", x.count(0), 1);
        Check.due("pass(5)", x.pass(5), 5);
        Check.due("count(2) of another one", other.count(2), 0);
        Check.end();
    }
}
