/** Promise 4: bodies of methods. */
public final class BodyTest {
    public static void main(String[] args) {
        MarkedRuns m = new MarkedRuns();
        Due.is("body(0, 0) ahead of a statement", m.body(0, 0), MarkedRuns.BAD);
        Due.is("body(0, NONE)", m.body(0, MarkedRuns.NONE), 1);
        Sorts.put(m, 1, 1);
        Sorts.put(m, 1, 2);
        for (int method = 0; method <= 7; method++) {
            Due.is("body(" + method + ", 0)", m.body(method, 0), 1);
        }
        Due.is("count(5)", m.count(5), 8);
        Due.is("body(3, 1)", m.body(3, 1), 1);
        m.run(3, 0, 2);
        Due.is("variable(1) by the new body", m.variable(1), 2);
        m.run(2, 0, 2);
        Due.is("variable(1) by the old one", m.variable(1), 1);
        for (int wrong : new int[] {-1, 8, Integer.MIN_VALUE, Integer.MAX_VALUE}) {
            Due.is("body(" + wrong + ", 0)", m.body(wrong, 0), MarkedRuns.BAD);
            Due.is("body(" + wrong + ", NONE)", m.body(wrong, MarkedRuns.NONE), MarkedRuns.BAD);
        }
        for (int wrong : new int[] {-2, 2, 119, Integer.MIN_VALUE, Integer.MAX_VALUE}) {
            Due.is("body(3, " + wrong + ")", m.body(3, wrong), MarkedRuns.BAD);
        }
        m.run(3, 0, 2);
        Due.is("variable(1) as before", m.variable(1), 2);
        Due.is("body(3, NONE)", m.body(3, MarkedRuns.NONE), 1);
        Due.is("run(3)", m.run(3, 0, 2), MarkedRuns.BAD);
        Due.is("count(5)", m.count(5), 7);
        Due.end();
    }
}
