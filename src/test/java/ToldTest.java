/** Promise 6: what is told of the latest run. */
public final class ToldTest {
    private static void expect(MarkedRuns m, int... want) {
        for (int what = 0; what < want.length; what++) {
            Due.is("told(" + what + ")", m.told(what), want[what]);
        }
    }

    public static void main(String[] args) {
        MarkedRuns m = new MarkedRuns();
        expect(m, MarkedRuns.NONE, 0, 0, 0, 0, 0, 0, 0, 0);
        int back = m.make(Sorts.RETURN, 0, 0, 0);
        int raise = m.make(Sorts.RAISE, 0, 0, 0);
        int zero = m.make(Sorts.BY, 1, 2, 2);
        int put = Sorts.put(m, 1, 1);
        m.body(0, put);
        m.body(1, back);
        m.body(2, raise);
        m.body(3, zero);
        m.run(0, 5, 160);
        expect(m, 0, 0, 0, 0, 2, 0, 1, 0, 0);
        m.run(1, 5, 160);
        expect(m, 1, 0, 0, 5, 2, 0, 1, 0, 0);
        m.run(2, -5, 160);
        expect(m, 2, 5, -5, 0, 2, 0, 1, 0, 0);
        m.run(3, 5, 160);
        expect(m, 2, 4, 0, 0, 2, 0, 1, 0, 0);
        m.run(3, 5, 161);
        expect(m, 2, 4, 0, 0, 2, 0, 1, 0, 0);
        m.run(0, 5, 1);
        expect(m, 3, 0, 0, 0, 0, 0, 0, 0, 0);
        int guards = m.make(Sorts.GUARD, 0, m.make(Sorts.GUARD, 1, m.make(Sorts.GUARD, 0, back, 0), 0), 0);
        m.body(4, guards);
        int call = m.make(Sorts.CALL, 4, 0, 0);
        m.body(5, Sorts.chain(m, call, call, m.make(Sorts.LAST, raise, put, 0)));
        m.run(5, 6, 16);
        expect(m, 2, 5, 6, 6, 16, 0, 2, 2, 0);
        m.run(5, 6, 15);
        expect(m, 3, 0, 0, 6, 6, 10, 2, 2, 0);
        int handled = m.make(Sorts.TRY, raise, 32, zero);
        m.body(6, handled);
        m.run(6, 6, 160);
        expect(m, 2, 4, 0, 0, 12, 0, 1, 0, 0);
        int twice = m.make(Sorts.GUARD, 3, m.make(Sorts.GUARD, 3, put, 0), 0);
        m.body(7, Sorts.chain(m, twice, m.make(Sorts.GUARD, 2, put, 0)));
        m.run(7, 6, 160);
        expect(m, 0, 0, 0, 0, 2, 0, 1, 2, 0);
        for (int wrong : new int[] {-1, 9, Integer.MIN_VALUE, Integer.MAX_VALUE}) {
            Due.is("told(" + wrong + ")", m.told(wrong), MarkedRuns.BAD);
        }
        Due.end();
    }
}
