/** Promise 8: the statements whose T began behind a handler or a final. */
public final class BeganTest {
    public static void main(String[] args) {
        MarkedRuns m = new MarkedRuns();
        int raise = m.make(Sorts.RAISE, 0, 0, 0);
        int put = Sorts.put(m, 1, 1);
        int handled = m.make(Sorts.TRY, raise, 32, put);
        int unhandled = m.make(Sorts.TRY, put, 32, put);
        int last = m.make(Sorts.LAST, handled, unhandled, 0);
        m.body(0, m.make(Sorts.LOOP, 0, last, 0));
        Due.is("run", m.run(0, 1, 160), Sorts.STOPPED);
        // 21 for each time round: 7 times are 147 and the entry, then a handler; the last part is the reserve's.
        for (int k = 0; k < 16; k++) {
            Due.is("began(" + k + ")", m.began(k), k % 2 == 0 ? handled : last);
        }
        Due.is("began(16)", m.began(16), MarkedRuns.NONE);
        Due.is("began(29)", m.began(29), MarkedRuns.NONE);
        Due.is("began(30)", m.began(30), MarkedRuns.NONE);
        Due.is("began(the most)", m.began(Integer.MAX_VALUE), MarkedRuns.NONE);
        Due.is("began(-1)", m.began(-1), MarkedRuns.BAD);
        Due.is("began(the least)", m.began(Integer.MIN_VALUE), MarkedRuns.BAD);
        Due.is("run without a handler's price", m.run(0, 1, 11), Sorts.STOPPED);
        Due.is("began(0)", m.began(0), last);
        Due.is("began(1)", m.began(1), MarkedRuns.NONE);
        m.run(0, 0, 160);
        Due.is("began(0) of a run without", m.began(0), MarkedRuns.NONE);
        Due.end();
    }
}
