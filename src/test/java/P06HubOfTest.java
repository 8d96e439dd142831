/** Promise 6: hubOf. */
public final class P06HubOfTest {
    public static void main(String[] args) {
        Probe x = tree();
        facts(x);
        wrongArguments(x);
        Check.end();
    }

    /** Hub 0 with unit 0 and hub 1; hub 1 with the units 1, 2 and hub 2; hub 2 with unit 3. */
    private static Probe tree() {
        Probe x = new Probe();
        x.hub(0, 1);
        x.hub(1, 1);
        x.unit(0, 1);
        x.unit(1, 1);
        x.unit(1, 1);
        x.unit(2, 1);
        x.set(1, 0, 3);
        x.set(1, 1, 1);
        x.set(1, 2, 2);
        x.set(1, 3, 4);
        x.set(2, 3, 20);
        return x;
    }

    private static void expect(Probe x, int hub, int what, int due) {
        Check.due("hubOf(" + hub + ", " + what + ")", x.hubOf(hub, what), due);
    }

    private static void facts(Probe x) {
        int[] settings = {3, 1, 2, 4, 1, 0, 1, 3, 3};
        for (int what = 0; what < settings.length; what++) {
            expect(x, 1, what, settings[what]);
        }
        expect(x, 0, 5, Check.ABSENT);
        expect(x, 2, 5, 1);
        expect(x, 2, 6, 2);
        expect(x, 0, 7, 2);
        expect(x, 0, 8, 4);
        x.takeOff(1);
        expect(x, 1, 7, 2);
        expect(x, 1, 8, 2);
        expect(x, 0, 7, 2);
        expect(x, 0, 8, 3);
        expect(x, 1, 13, Check.ABSENT);
        x.pass(10);
        x.send(2, 4, 1, 0, 1);
        x.send(2, 4, 1, 0, 1);
        x.send(2, 6, 1, 0, 1);
        x.send(2, 5, 1, 0, 1);
        expect(x, 1, 14, 0);
        x.pass(1);
        expect(x, 1, 9, 3);
        expect(x, 1, 10, 0);
        expect(x, 1, 12, 1);
        expect(x, 0, 12, 0);
        x.pass(3);
        expect(x, 1, 9, 0);
        expect(x, 1, 10, 3);
        expect(x, 1, 13, 6);
        expect(x, 1, 14, 3);
        expect(x, 0, 14, 0);
        x.send(2, 6, 1, 0, 1);
        x.send(2, 0, 1, 0, 1);
        x.send(3, 0, 1, 0, 1);
        x.pass(1);
        expect(x, 1, 11, 2);
        expect(x, 0, 11, 0);
        expect(x, 2, 10, 1);
        expect(x, 2, 13, 0);
        expect(x, 2, 14, 1);
        expect(x, 1, 14, 3);
        x.pass(3);
        expect(x, 1, 14, 0);
        expect(x, 0, 10, 3);
        expect(x, 0, 13, 6);
        x.pass(17);
        expect(x, 2, 14, 0);
        expect(x, 1, 11, 3);
    }

    private static void wrongArguments(Probe x) {
        expect(x, 3, 0, Check.INVALID);
        expect(x, -1, 0, Check.INVALID);
        expect(x, 0, -1, Check.INVALID);
        expect(x, 0, 15, Check.INVALID);
        expect(x, 3, 5, Check.INVALID);
        expect(x, Integer.MIN_VALUE, Integer.MAX_VALUE, Check.INVALID);
    }
}
