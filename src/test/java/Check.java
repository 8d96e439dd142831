/** Counts answers that are not the ones that are due; each test ends with end(). */
final class Check {
    static final int INVALID = PhasorTree.INVALID_ARGUMENT;
    static final int IMPOSSIBLE = PhasorTree.NOT_POSSIBLE;
    static final int LIMIT = PhasorTree.LIMIT_REACHED;
    static final int ABSENT = PhasorTree.NOT_FOUND;

    private static int asked = 0;
    private static int wrong = 0;

    private Check() {
    }

    static void due(String call, long got, long want) {
        asked++;
        if (got != want) {
            wrong++;
            System.out.println(call + " answered " + got + ", due is " + want);
        }
    }

    static void holds(String what, boolean does) {
        due(what, does ? 1 : 0, 1);
    }

    static int asked() {
        return asked;
    }

    static int wrong() {
        return wrong;
    }

    static void end() {
        System.out.println(asked + " answers, " + wrong + " not as due");
        System.exit(wrong == 0 && asked > 0 ? 0 : 1);
    }

    /** Replaces the text of x. */
    static void text(Probe x, String text) {
        x.clearText();
        for (int i = 0; i < text.length(); i++) {
            due("type(" + (int) text.charAt(i) + ")", x.type(text.charAt(i)), i + 1);
        }
    }

    /** The text's fault, told by another object in the same state: both are NOT_FOUND if there is none. */
    static void fault(Probe x, String text, int position, int reason) {
        Probe other = x.again();
        text(other, text);
        due("fault(0) of " + text, other.fault(0), position);
        due("fault(1) of " + text, other.fault(1), reason);
    }
}
