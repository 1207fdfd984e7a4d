/** Promise 12: whether a run with another budget tells the same. */
public final class SameTest {
    private static MarkedRuns m;

    private static int same(int statement, int x, int budget, int other) {
        m.body(0, statement);
        return m.same(0, x, budget, other);
    }

    private static void differences() {
        m = new MarkedRuns();
        int spin = m.make(Sorts.LOOP, 6, Sorts.put(m, 6, 0), 0);
        int none = Sorts.chain(m, Sorts.put(m, 6, 1), spin);
        Due.is("the same", same(none, 1, 10, 160), 1);
        Due.is("other answers", same(none, 1, 2, 160), 0);
        Due.is("stopped both", same(none, 1, 2, 2), 1);
        Due.is("stopped at the entry or on the way back", same(none, 1, 1, 2), 1);
        int two = Sorts.chain(m, Sorts.put(m, 6, 1), m.make(Sorts.LOOP, 6, Sorts.put(m, 6, 2), 0));
        Due.is("stopped alike", same(two, 1, 2, 3), 1);
        Due.is("marks do not count", same(two, 1, 2, 160), 1);
        int plus = Sorts.chain(m, Sorts.put(m, 6, 1), m.make(Sorts.LOOP, 6, m.make(Sorts.PLUS, 5, 5, 6), 0));
        Due.is("other variables", same(plus, 1, 2, 3), 0);
        Due.is("variable(5) of the one with other", m.variable(5), 2);
        Due.is("told(4) of the one with other", m.told(4), 3);
        int row = Sorts.chain(m, Sorts.put(m, 6, 0), m.make(Sorts.MAKE, 1, 6, 0), Sorts.put(m, 6, 0));
        Due.is("null and a row of none, stopped or not", same(row, 1, 2, 3), 0);
    }

    /** Each is stopped with either budget, so that answers and variables are the same. */
    private static void rowsAndResults() {
        m = new MarkedRuns();
        int spin = m.make(Sorts.LOOP, 0, Sorts.put(m, 0, 1), 0);
        int make = m.make(Sorts.MAKE, 1, 3, 0);
        Due.is("null or a row", same(Sorts.chain(m, make, spin), 1, 2, 100), 0);
        Due.is("a row or null", same(Sorts.chain(m, make, spin), 1, 100, 2), 0);
        Due.is("a row both times", same(Sorts.chain(m, make, spin), 1, 99, 100), 1);
        m.body(1, m.make(Sorts.RETURN, 0, 0, 0));
        int call = m.make(Sorts.CALL, 1, 0, 0);
        Due.is("another result", same(Sorts.chain(m, call, spin), 1, 2, 100), 0);
        Due.is("the same result", same(Sorts.chain(m, call, spin), 1, 99, 100), 1);
        int store = m.make(Sorts.STORE, 1, 3, 0);
        int makeOne = m.make(Sorts.MAKE, 1, 0, 0);
        m.body(2, store);
        int callStore = m.make(Sorts.CALL, 2, 0, 0);
        int items = Sorts.chain(m, makeOne, callStore, spin);
        Due.is("other items", same(items, 1, 4, 100), 0);
        Due.is("the same items", same(items, 1, 5, 100), 1);
        int shared = Sorts.chain(m, makeOne, m.make(Sorts.SHARED, 2, 1, 0), spin);
        Due.is("shared rows", same(shared, 1, 5, 100), 1);
    }

    private static void kindsAndNumbers() {
        m = new MarkedRuns();
        int raise = m.make(Sorts.RAISE, 0, 0, 0);
        Due.is("the same number", same(raise, 4, 2, 160), 1);
        Due.is("told(2)", m.told(2), 4);
        Due.is("stopped or thrown", same(raise, 4, 1, 160), 0);
        Due.is("count(2)", m.count(2), 3);
        Due.is("count(3)", m.count(3), 1);
    }

    private static void badOnes() {
        m = new MarkedRuns();
        m.body(0, Sorts.put(m, 1, 1));
        m.run(0, 9, 160);
        for (int wrong : new int[] {-1, 1, 8, Integer.MIN_VALUE, Integer.MAX_VALUE}) {
            Due.is("same(" + wrong + ")", m.same(wrong, 0, 160, 160), MarkedRuns.BAD);
        }
        for (int wrong : new int[] {-1, 161, Integer.MIN_VALUE, Integer.MAX_VALUE}) {
            Due.is("same with " + wrong, m.same(0, 0, wrong, 160), MarkedRuns.BAD);
            Due.is("same with other " + wrong, m.same(0, 0, 160, wrong), MarkedRuns.BAD);
        }
        Due.is("variable(0) of the latest run", m.variable(0), 9);
        Due.is("count(0)", m.count(0), 1);
        Due.is("same", m.same(0, 7, 0, 160), 0);
        Due.is("variable(0)", m.variable(0), 7);
        Due.is("told(0)", m.told(0), Sorts.END);
        Due.is("count(0)", m.count(0), 2);
        Due.is("count(3)", m.count(3), 1);
        Due.is("same with 0 as other", m.same(0, 7, 160, 0), 0);
        Due.is("told(0)", m.told(0), Sorts.STOPPED);
        m.run(0, 3, 160);
        Due.is("variable(0) of a run behind it", m.variable(0), 3);
    }

    public static void main(String[] args) {
        differences();
        rowsAndResults();
        kindsAndNumbers();
        badOnes();
        Due.end();
    }
}
