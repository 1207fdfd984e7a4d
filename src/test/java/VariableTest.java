/** Promise 9: the variables behind the latest run. */
public final class VariableTest {
    public static void main(String[] args) {
        MarkedRuns m = new MarkedRuns();
        int[] parts = new int[7];
        for (int x = 1; x <= 7; x++) {
            Due.is("variable ahead of a run", m.variable(x), 0);
            parts[x - 1] = Sorts.put(m, x, x == 7 ? Integer.MIN_VALUE : -x);
        }
        m.body(0, Sorts.chain(m, parts));
        m.body(1, parts[1]);
        m.run(0, Integer.MAX_VALUE, 2);
        Due.is("variable(0)", m.variable(0), Integer.MAX_VALUE);
        for (int x = 1; x <= 6; x++) {
            Due.is("variable(" + x + ")", m.variable(x), -x);
        }
        Due.is("variable(7)", m.variable(7), Integer.MIN_VALUE);
        for (int wrong : new int[] {-1, 8, Integer.MIN_VALUE, Integer.MAX_VALUE}) {
            Due.is("variable(" + wrong + ")", m.variable(wrong), 0);
        }
        m.run(1, 4, 2);
        Due.is("variable(0)", m.variable(0), 4);
        Due.is("variable(1) of a new run", m.variable(1), 0);
        Due.is("variable(2)", m.variable(2), -2);
        Due.end();
    }
}
