/** Promise 7: how many marks of each kind the latest run had. */
public final class MarksTest {
    private static void expect(MarkedRuns m, int... want) {
        for (int kind = 0; kind < want.length; kind++) {
            Due.is("marks(" + kind + ")", m.marks(kind), want[kind]);
        }
    }

    public static void main(String[] args) {
        MarkedRuns m = new MarkedRuns();
        int one = Sorts.put(m, 1, 1);
        int less = m.make(Sorts.LESS, 0, 0, 1);
        int making = m.make(Sorts.MAKE, 0, 1, 0);
        int zero = m.make(Sorts.BY, 2, 3, 3);
        int handled = m.make(Sorts.TRY, zero, 16, making);
        int loop = m.make(Sorts.LOOP, 0, Sorts.chain(m, one, less, making), 0);
        int all = m.make(Sorts.LAST, Sorts.chain(m, loop, handled), m.make(Sorts.CALL, 1, 0, 0), 0);
        m.body(0, all);
        m.body(1, making);
        // 2 and 3 times 1 + 1, 10 + 1 by the handler, 10 for the last part, 2 + 1 for its call.
        Due.is("run", m.run(0, 3, 32), Sorts.END);
        expect(m, 3, 2, 1, 1, 5);
        Due.is("told(4)", m.told(4), 32);
        Due.is("run with 1 less", m.run(0, 3, 31), Sorts.STOPPED);
        expect(m, 3, 2, 1, 1, 4);
        Due.is("run by the reserve", m.run(0, 3, 6), Sorts.STOPPED);
        expect(m, 2, 2, 0, 1, 3);
        Due.is("told(5)", m.told(5), 13);
        Due.is("run with 0", m.run(0, 3, 0), Sorts.STOPPED);
        expect(m, 0, 0, 0, 0, 0);
        for (int wrong : new int[] {-1, 5, Integer.MIN_VALUE, Integer.MAX_VALUE}) {
            Due.is("marks(" + wrong + ")", m.marks(wrong), MarkedRuns.BAD);
        }
        Due.end();
    }
}
