/** Promises 10 and 11: sizes and items of rows behind the latest run. */
public final class RowTest {
    public static void main(String[] args) {
        MarkedRuns m = new MarkedRuns();
        int wrongs[] = {-1, 4, Integer.MIN_VALUE, Integer.MAX_VALUE};
        for (int wrong : wrongs) {
            Due.is("size(" + wrong + ")", m.size(wrong), MarkedRuns.BAD);
            Due.is("item(" + wrong + ", 0)", Due.item(m, wrong, 0), Due.INDEX_THROWN);
        }
        Due.is("item(0, -1) of null", Due.item(m, 0, -1), Due.NULL_THROWN);
        int make = m.make(Sorts.MAKE, 3, 0, 0);
        int none = m.make(Sorts.MAKE, 0, 1, 0);
        int store = m.make(Sorts.STORE, 3, 2, 4);
        m.body(0, Sorts.chain(m, make, none, Sorts.put(m, 2, 4), Sorts.put(m, 4, -2), store,
            m.make(Sorts.SHARED, 2, 3, 0)));
        Due.is("run", m.run(0, 5, 160), Sorts.END);
        Due.is("size(3)", m.size(3), 5);
        Due.is("size(2)", m.size(2), 5);
        Due.is("size(1)", m.size(1), MarkedRuns.NONE);
        Due.is("size(0)", m.size(0), 0);
        Due.is("item(3, 4), any number", Due.item(m, 3, 4), -2);
        Due.is("item(2, 4), the same row", Due.item(m, 2, 4), -2);
        Due.is("item(3, 0)", Due.item(m, 3, 0), 0);
        Due.is("item(1, 0)", Due.item(m, 1, 0), Due.NULL_THROWN);
        Due.is("item(1, 9)", Due.item(m, 1, 9), Due.NULL_THROWN);
        Due.is("item(0, 0)", Due.item(m, 0, 0), Due.INDEX_THROWN);
        for (int wrong : new int[] {-1, 5, Integer.MIN_VALUE, Integer.MAX_VALUE}) {
            Due.is("item(3, " + wrong + ")", Due.item(m, 3, wrong), Due.INDEX_THROWN);
        }
        for (int wrong : wrongs) {
            Due.is("size(" + wrong + ")", m.size(wrong), MarkedRuns.BAD);
            Due.is("item(" + wrong + ", 0)", Due.item(m, wrong, 0), Due.INDEX_THROWN);
        }
        m.run(0, 631, 2);
        Due.is("size(3) of a run stopped ahead of the row", m.size(3), MarkedRuns.NONE);
        Due.is("item(3, 0)", Due.item(m, 3, 0), Due.NULL_THROWN);
        m.body(1, make);
        m.run(1, 631, 160);
        Due.is("size(3), the most", m.size(3), 631);
        for (int i = 0; i < 631; i++) {
            Due.is("a new row's item", Due.item(m, 3, i), 0);
        }
        Due.end();
    }
}
