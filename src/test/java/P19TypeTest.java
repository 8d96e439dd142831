/** Promise 19: type. */
public final class P19TypeTest {
    public static void main(String[] args) {
        Probe x = new Probe();
        Check.due("type(31)", x.type(31), Check.INVALID);
        Check.due("type(127)", x.type(127), Check.INVALID);
        Check.due("type(-1)", x.type(-1), Check.INVALID);
        Check.due("type(65536 + 'p')", x.type(65536 + 'p'), Check.INVALID);
        Check.due("type(32)", x.type(32), 1);
        Check.due("type(126)", x.type(126), 2);
        for (int i = 3; i <= 60; i++) {
            Check.due("type(48)", x.type(48), i);
        }
        Check.due("type(48)", x.type(48), Check.LIMIT);
        Check.due("type(31)", x.type(31), Check.INVALID);
        Check.due("type(127)", x.type(127), Check.INVALID);
        Check.due("count(10)", x.count(10), 60);
        Check.due("count(9)", x.count(9), 0);
        Check.due("clearText()", x.clearText(), 60);
        Check.due("type(112)", x.type(112), 1);
        Check.end();
    }
}
