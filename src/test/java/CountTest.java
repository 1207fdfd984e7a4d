/** Promise 13: runs by their answers, statements, methods with a body. */
public final class CountTest {
    private static void expect(MarkedRuns m, int... want) {
        for (int what = 0; what < want.length; what++) {
            Due.is("count(" + what + ")", m.count(what), want[what]);
        }
    }

    public static void main(String[] args) {
        MarkedRuns m = new MarkedRuns();
        expect(m, 0, 0, 0, 0, 0, 0);
        m.body(0, Sorts.put(m, 1, 1));
        m.body(1, m.make(Sorts.RETURN, 0, 0, 0));
        m.body(2, m.make(Sorts.RAISE, 0, 0, 0));
        expect(m, 0, 0, 0, 0, 3, 3);
        m.run(0, 0, 160);
        m.run(1, 0, 160);
        m.run(1, 0, 160);
        m.run(2, 0, 160);
        m.run(2, 0, 0);
        m.run(2, 0, 161);
        m.run(7, 0, 160);
        expect(m, 1, 2, 1, 1, 3, 3);
        m.same(2, 0, 1, 2);
        expect(m, 1, 2, 2, 2, 3, 3);
        m.body(2, MarkedRuns.NONE);
        m.body(1, 0);
        m.drop();
        expect(m, 1, 2, 2, 2, 2, 2);
        for (int wrong : new int[] {-1, 6, Integer.MIN_VALUE, Integer.MAX_VALUE}) {
            Due.is("count(" + wrong + ")", m.count(wrong), MarkedRuns.BAD);
        }
        Due.end();
    }
}
