/** Promise 15: nextOut. */
public final class P15NextOutTest {
    public static void main(String[] args) {
        Probe x = new Probe();
        Check.due("nextOut()", x.nextOut(), Check.ABSENT);
        // Four hubs in a row, each with the delay 20, and a frame that is on its way for 60 ticks.
        for (int hub = 0; hub < 4; hub++) {
            x.hub(hub, 1);
            x.set(hub + 1, 3, 20);
        }
        x.unit(4, 1);
        x.unit(4, 1);
        x.send(0, 0, 1, 0, 60);
        Check.due("nextOut()", x.nextOut(), 140);
        // By the rule 1 each of the hubs waits after it has come: 141 to 200 ticks, and more.
        x.set(4, 1, 1);
        x.set(4, 0, 40);
        Check.due("nextOut()", x.nextOut(), 180);
        x.unit(3, 1);
        x.set(3, 1, 1);
        x.set(3, 0, 20);
        Check.due("nextOut()", x.nextOut(), 200);
        x.set(3, 0, 21);
        Check.due("nextOut()", x.nextOut(), Check.ABSENT);
        x.pass(1);
        Check.due("nextOut()", x.nextOut(), 200);
        // The foretelling changes nothing.
        Check.due("count(2)", x.count(2), 1);
        Check.due("count(3)", x.count(3), 1);
        Check.due("count(9)", x.count(9), 4);
        x.pass(100);
        x.pass(99);
        Check.due("count(4)", x.count(4), 0);
        Check.due("nextOut()", x.nextOut(), 1);
        x.pass(1);
        Check.due("count(4)", x.count(4), 1);
        Check.due("nextOut()", x.nextOut(), Check.ABSENT);
        Probe y = new Probe();
        y.set(0, 4, 20);
        y.unit(0, 1);
        y.pass(1);
        y.send(0, 1, 1, 0, 1);
        Check.due("nextOut()", y.nextOut(), 19);
        y.send(0, 0, 1, 0, 3);
        Check.due("nextOut()", y.nextOut(), 3);
        Check.end();
    }
}
