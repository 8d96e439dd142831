/** Promise 20: clearText. */
public final class P20ClearTextTest {
    public static void main(String[] args) {
        Probe x = new Probe();
        Check.due("clearText()", x.clearText(), 0);
        Check.text(x, "p1;p");
        Check.due("fault(0)", x.fault(0), 3);
        Check.due("clearText()", x.clearText(), 4);
        Check.due("count(10)", x.count(10), 0);
        Check.due("fault(0)", x.fault(0), Check.ABSENT);
        Check.due("clearText()", x.clearText(), 0);
        Check.due("count(9)", x.count(9), 0);
        Check.text(x, "p2;");
        Check.due("play()", x.play(), 1);
        Check.due("count(2)", x.count(2), 2);
        Check.end();
    }
}
