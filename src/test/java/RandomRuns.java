import java.util.Arrays;
import java.util.Random;

/** Runs of random calls, from fixed seeds, on PhasorTree and on Reference, which must answer alike. */
public final class RandomRuns {
    private static final String[] NAMES = {"hub", "unit", "takeOff", "set", "hubOf", "unitOf", "unitAt", "send",
        "pass", "slotAt", "outAt", "readingAt", "heldBy", "nextOut", "foresee", "count", "undo", "type",
        "clearText", "fault", "play"};
    private static final int[] ARGUMENTS = {2, 2, 1, 3, 2, 2, 2, 5, 1, 3, 2, 3, 3, 0, 1, 1, 0, 1, 0, 1, 0};
    private static final int[][] PERIODS = {{1}, {1, 2, 4}, {1, 2, 3, 6}, {5, 10, 20}, {1, 2, 4, 5, 10, 20},
        {1, 20}, {2, 4, 8, 16}, {1, 3, 9, 18}, {4, 2, 4, 4}};

    private static Probe built;
    // In the same state as the built one, to be asked about all of it.
    private static Probe asked;
    private static Reference plain;
    private static Random random;
    private static int[] periods;
    private static int waitLimit;
    private static int travelLimit;
    private static StringBuilder log;

    private static int onPlain(int op, int[] a) {
        Reference x = plain;
        switch (op) {
            case 0: return x.hub(a[0], a[1]);
            case 1: return x.unit(a[0], a[1]);
            case 2: return x.takeOff(a[0]);
            case 3: return x.set(a[0], a[1], a[2]);
            case 4: return x.hubOf(a[0], a[1]);
            case 5: return x.unitOf(a[0], a[1]);
            case 6: return x.unitAt(a[0], a[1]);
            case 7: return x.send(a[0], a[1], a[2], a[3], a[4]);
            case 8: return x.pass(a[0]);
            case 9: return x.slotAt(a[0], a[1], a[2]);
            case 10: return x.outAt(a[0], a[1]);
            case 11: return x.readingAt(a[0], a[1], a[2]);
            case 12: return x.heldBy(a[0], a[1], a[2]);
            case 13: return x.nextOut();
            case 14: return x.foresee(a[0]);
            case 15: return x.count(a[0]);
            case 16: return x.undo();
            case 17: return x.type(a[0]);
            case 18: return x.clearText();
            case 19: return x.fault(a[0]);
            default: return x.play();
        }
    }

    private static int call(int op, int... a) {
        int due = onPlain(op, a);
        if (op < 4 || op == 7 || op == 8 || op >= 16) {
            log.append(NAMES[op]).append(Arrays.toString(a)).append(" = ").append(due).append('\n');
        }
        compare(op, a, built.call(NAMES[op], a), due);
        return due;
    }

    /** Asks a second object, as the built one has 512 calls only. */
    private static void ask(int op, int... a) {
        if (asked.callsLeft() == 0) {
            asked = built.again();
        }
        compare(op, a, asked.call(NAMES[op], a), onPlain(op, a));
    }

    private static void compare(int op, int[] a, int got, int due) {
        if (got != due) {
            System.out.println(log);
            System.out.println(NAMES[op] + Arrays.toString(a) + " answered " + got + ", the reference " + due);
            System.exit(1);
        }
    }

    private static int between(int least, int most) {
        return least + random.nextInt(most - least + 1);
    }

    private static int period() {
        return periods[random.nextInt(periods.length)];
    }

    private static int someHub() {
        return random.nextInt(Math.max(1, plain.count(0)));
    }

    private static int someUnit() {
        int many = 0;
        while (plain.unitOf(many, 0) >= 0) {
            many++;
        }
        return many == 0 ? 0 : random.nextInt(many);
    }

    private static void randomSetting() {
        int what = between(0, 4);
        int value = what == 0 ? between(0, waitLimit) : what == 1 ? between(0, 1) : what == 2 ? between(0, 2)
                : what == 3 ? between(0, Math.min(20, travelLimit)) : period();
        call(3, someHub(), what, value);
    }

    private static void randomSend() {
        int unit = someUnit();
        int period = Math.max(1, plain.unitOf(unit, 1));
        int time = plain.count(2);
        int back = random.nextInt(3) == 0 ? between(0, 60) : between(0, 2 * period + 2);
        int stamp = Math.max(0, time - back) / period * period;
        int value = random.nextInt(4) == 0 ? between(-100000, 100000) : between(-20, 20);
        int flags = random.nextInt(3) == 0 ? between(0, 15) : random.nextInt(2);
        call(7, unit, stamp, value, flags, between(1, travelLimit));
    }

    private static void randomRow() {
        int unit = someUnit();
        int period = Math.max(1, plain.unitOf(unit, 1));
        int time = plain.count(2);
        for (int k = between(2, 8); k >= 0; k--) {
            int stamp = time / period * period - k * period;
            call(7, unit, stamp, between(-100, 100), random.nextInt(4) == 0 ? 1 : between(0, 7) * 2,
                    between(1, Math.min(4, travelLimit)));
        }
    }

    private static void randomText() {
        call(18);
        int time = plain.count(2);
        String text = "";
        int many = between(0, 6);
        for (int i = 0; i < many; i++) {
            int kind = random.nextInt(8);
            int unit = random.nextInt(12) == 0 ? between(0, 11) : someUnit();
            int period = Math.max(1, plain.unitOf(unit, 1));
            if (kind < 4) {
                int stamp = Math.max(0, time + between(-8, 2)) / period * period;
                text += "m" + unit + "," + stamp + "," + between(-50, 50) + ";";
            } else if (kind < 7) {
                int ticks = random.nextInt(10) == 0 ? between(0, 200) : between(1, 6);
                text += "p" + (random.nextInt(4) == 0 ? "00" : "") + ticks + ";";
                time += ticks;
            } else if (random.nextInt(3) == 0) {
                text += "x" + unit + ";";
            }
        }
        if (random.nextInt(5) == 0 && !text.isEmpty()) {
            int at = random.nextInt(text.length());
            char odd = "mpx,;-019 ".charAt(random.nextInt(10));
            text = text.substring(0, at) + odd + text.substring(at + random.nextInt(2));
        }
        for (int i = 0; i < text.length(); i++) {
            call(17, text.charAt(i));
        }
        call(19, 0);
        call(19, 1);
        call(20);
    }

    private static void anyCall() {
        int op = random.nextInt(NAMES.length);
        int[] a = new int[ARGUMENTS[op]];
        for (int i = 0; i < a.length; i++) {
            int kind = random.nextInt(10);
            a[i] = kind < 6 ? between(0, 5) : kind < 8 ? between(-2, 22) : kind < 9 ? between(-110, 110)
                    : new int[] {Integer.MIN_VALUE, Integer.MAX_VALUE, 20000, 20001, 100000, -100001}[random.nextInt(6)];
        }
        call(op, a);
    }

    private static void compareAll() {
        asked = built.again();
        for (int what = -1; what <= 11; what++) {
            ask(15, what);
        }
        for (int hub = 0; hub < plain.count(0); hub++) {
            for (int what = 0; what <= 14; what++) {
                ask(4, hub, what);
            }
            for (int index = 0; index <= 10; index++) {
                ask(6, hub, index);
            }
            for (int unit = 0; unit < 10; unit++) {
                ask(12, hub, unit, 0);
                ask(12, hub, unit, 1);
            }
            for (int index = 0; index <= plain.hubOf(hub, 9); index++) {
                for (int what = 0; what <= 5; what++) {
                    ask(9, hub, index, what);
                }
            }
        }
        for (int unit = 0; unit < 10; unit++) {
            for (int what = 0; what <= 6; what++) {
                ask(5, unit, what);
            }
        }
        for (int index = 0; index <= 8; index++) {
            for (int what = 0; what <= 4; what++) {
                ask(10, index, what);
            }
            for (int unit = 0; unit < 10; unit++) {
                ask(11, index, unit, 0);
                ask(11, index, unit, 1);
            }
        }
        ask(13);
        ask(14, between(1, 200));
        ask(14, between(1, 12));
    }

    private static void start(long seed) {
        random = new Random(seed);
        built = new Probe();
        plain = new Reference();
        log = new StringBuilder("seed ").append(seed).append('\n');
        periods = PERIODS[random.nextInt(PERIODS.length)];
        waitLimit = random.nextBoolean() ? 40 : 6;
        travelLimit = new int[] {1, 3, 10, 60}[random.nextInt(4)];
        call(3, 0, 4, period());
        int hubs = between(0, 4);
        for (int i = 0; i < hubs; i++) {
            call(0, random.nextBoolean() ? i : someHub(), period());
        }
        int units = between(1, 10);
        for (int i = 0; i < units; i++) {
            call(1, someHub(), period());
        }
        for (int i = between(0, 12); i > 0; i--) {
            randomSetting();
        }
        if (random.nextInt(3) == 0) {
            call(8, between(1, 100));
        }
    }

    private static void step() {
        int kind = random.nextInt(100);
        if (kind < 42) {
            randomSend();
        } else if (kind < 50) {
            randomRow();
        } else if (kind < 74) {
            call(8, random.nextInt(12) == 0 ? between(1, 100) : between(1, 4));
        } else if (kind < 80) {
            randomSetting();
        } else if (kind < 83) {
            randomText();
        } else if (kind < 84) {
            call(2, someUnit());
        } else if (kind < 86) {
            call(random.nextInt(2), someHub(), period());
        } else if (kind < 88) {
            call(16);
        } else if (kind < 89) {
            call(20);
        } else {
            anyCall();
        }
    }

    public static void main(String[] args) {
        long from = args.length > 0 ? Long.parseLong(args[0]) : 1;
        long runs = args.length > 1 ? Long.parseLong(args[1]) : 600;
        for (long seed = from; seed < from + runs; seed++) {
            start(seed);
            int callsLeft = between(0, 400);
            // A step may take as many calls as a text has characters, and some more.
            while (built.callsLeft() > Math.max(callsLeft, 80)) {
                step();
                if (random.nextInt(12) == 0) {
                    compareAll();
                }
            }
            compareAll();
        }
        System.out.println(runs + " runs answered alike");
    }
}
