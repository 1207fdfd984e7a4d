/** Terms: rows, and what is done with them. */
public final class RowsTest extends Sorts {
    private static void rowsAreNullAtFirst() {
        Due.sentence("ROWS 0 .. 3 of ints (r; NULL at first)");
        for (int row = 0; row <= 3; row++) {
            fresh();
            Due.is("long of row " + row, thrown(st(LONG, 1, row), 0), NULL);
            run(st(MAKE, row, 0), 2, 160);
            Due.is("size(" + row + ")", m.size(row), 2);
            Due.is("long of row " + row + " in the next run", thrown(st(LONG, 1, row), 0), NULL);
            Due.is("size(" + row + ")", m.size(row), NONE);
        }
    }

    private static void newRows() {
        Due.sentence("6 MAKE r x: r is a new ROW of x ints, all 0");
        fresh();
        int make = st(MAKE, 1, 0);
        Due.is("a row of 0", run(make, 0, 160), END);
        Due.is("size(1)", m.size(1), 0);
        Due.is("item(1, 0)", Due.item(m, 1, 0), Due.INDEX_THROWN);
        run(make, 1, 160);
        Due.is("size(1)", m.size(1), 1);
        int filled = chain(make, put(2, 0), put(3, 9), st(STORE, 1, 2, 3), put(2, 2), st(STORE, 1, 2, 3));
        run(filled, 3, 160);
        Due.is("item(1, 0)", Due.item(m, 1, 0), 9);
        run(make, 3, 160);
        for (int i = 0; i < 3; i++) {
            Due.is("item(1, " + i + ") of a later run", Due.item(m, 1, i), 0);
        }
        int again = chain(filled, st(SHARED, 2, 1), make);
        run(again, 3, 160);
        for (int i = 0; i < 3; i++) {
            Due.is("item(1, " + i + ") of the second row", Due.item(m, 1, i), 0);
            Due.is("item(2, " + i + ") of the first row", Due.item(m, 2, i), i == 1 ? 0 : 9);
        }
    }

    /** The longest row that a budget does for, and all items that one run can make. */
    private static void theMostItems() {
        Due.sentence("r is a new ROW of x ints, all 0");
        fresh();
        int make = st(MAKE, 0, 0);
        Due.is("a row of 631", run(make, 631, 160), END);
        Due.is("size(0)", m.size(0), 631);
        int fill = chain(make, put(1, 630), put(2, 5), st(STORE, 0, 1, 2));
        run(fill, 631, 160);
        Due.is("item(0, 630)", Due.item(m, 0, 630), 5);
        run(make, 631, 160);
        Due.is("item(0, 630)", Due.item(m, 0, 630), 0);
        Due.is("item(0, 0)", Due.item(m, 0, 0), 0);
        // 631 items for the whole budget, and 119 more for all that the FINAL leaves of the reserve.
        int second = chain(put(1, 119), st(MAKE, 1, 1), put(1, 118), put(2, 6), st(STORE, 1, 1, 2));
        Due.is("two rows", run(st(LAST, fill, second), 631, 160), STOPPED);
        Due.is("told(5)", m.told(5), 40);
        Due.is("size(1)", m.size(1), 119);
        Due.is("item(1, 118)", Due.item(m, 1, 118), 6);
        Due.is("item(1, 0)", Due.item(m, 1, 0), 0);
        Due.is("item(0, 630)", Due.item(m, 0, 630), 5);
    }

    private static void sizesBelow0() {
        Due.sentence("(SIZE: x is below 0)");
        for (int size : new int[] {-1, -4, MIN}) {
            fresh();
            int make = st(MAKE, 1, 0);
            Due.is("a row of " + size, thrown(make, size), SIZE);
            Due.is("size(1)", m.size(1), NONE);
            int over = chain(put(2, 3), st(MAKE, 1, 2), make, put(3, 1));
            Due.is("a row of " + size + " over one of 3", thrown(over, size), SIZE);
            Due.is("size(1), as it was", m.size(1), 3);
            Due.is("variable(3)", m.variable(3), 0);
        }
        fresh();
        Due.is("a row of 0", run(st(MAKE, 1, 0), 0, 160), END);
    }

    private static void loads() {
        Due.sentence("7 LOAD x r y: x is item y of r");
        fresh();
        int row = chain(put(1, 3), st(MAKE, 2, 1), st(STORE, 2, 0, 4));
        run(chain(put(4, 8), row, st(LOAD, 5, 2, 0)), 0, 160);
        Due.is("the first item", m.variable(5), 8);
        run(chain(put(4, -8), row, st(LOAD, 5, 2, 0)), 2, 160);
        Due.is("the last item", m.variable(5), -8);
        run(chain(put(4, 8), row, put(1, 1), put(5, 7), st(LOAD, 5, 2, 1)), 0, 160);
        Due.is("an item that nothing was stored in", m.variable(5), 0);
    }

    private static void stores() {
        Due.sentence("8 STORE r y x: item y of r is x");
        for (int at = 0; at < 3; at++) {
            fresh();
            run(chain(put(1, 3), st(MAKE, 2, 1), put(4, MIN), st(STORE, 2, 0, 4)), at, 160);
            for (int i = 0; i < 3; i++) {
                Due.is("item(2, " + i + ") behind a store at " + at, Due.item(m, 2, i), i == at ? MIN : 0);
            }
        }
    }

    private static void nullThenIndex() {
        Due.sentence("(NULL, then INDEX)");
        for (int length = 0; length <= 3; length += 3) {
            for (int at : new int[] {-1, length, length + 1, MIN, MAX}) {
                fresh();
                int row = chain(put(1, length), st(MAKE, 2, 1), put(5, 7));
                int load = st(LOAD, 5, 2, 0);
                int store = st(STORE, 2, 0, 5);
                String where = " at " + at + " of " + length;
                Due.is("load" + where, thrown(chain(row, load), at), INDEX);
                Due.is("variable(5) is left", m.variable(5), 7);
                Due.is("store" + where, thrown(chain(row, store), at), INDEX);
                for (int i = 0; i < length; i++) {
                    Due.is("item(2, " + i + ") is left", Due.item(m, 2, i), 0);
                }
                Due.is("load at " + at + " of null", thrown(chain(put(5, 7), load), at), NULL);
                Due.is("variable(5) is left", m.variable(5), 7);
                Due.is("store at " + at + " of null", thrown(store, at), NULL);
            }
        }
        fresh();
        Due.is("load at 0 of null", thrown(st(LOAD, 5, 2, 0), 0), NULL);
        Due.is("store at 0 of null", thrown(st(STORE, 2, 0, 5), 0), NULL);
    }

    private static void lengths() {
        Due.sentence("9 LONG x r: x is how many items r has (NULL).");
        for (int length : new int[] {0, 1, 40}) {
            fresh();
            Due.is("run", run(chain(put(5, 7), st(MAKE, 3, 0), st(LONG, 5, 3)), length, 160), END);
            Due.is("variable(5)", m.variable(5), length);
        }
        Due.is("long of null", thrown(chain(put(5, 7), st(LONG, 5, 3)), 0), NULL);
        Due.is("variable(5) is left", m.variable(5), 7);
    }

    private static void nulledRows() {
        Due.sentence("10 NONE r: r is NULL");
        fresh();
        Due.is("of a null row", run(st(NULLED, 1)), END);
        Due.is("size(1)", m.size(1), NONE);
        run(chain(st(MAKE, 1, 0), st(SHARED, 2, 1), st(NULLED, 1)), 4, 160);
        Due.is("size(1)", m.size(1), NONE);
        Due.is("size(2), the same row once", m.size(2), 4);
        run(chain(st(MAKE, 1, 0), put(3, 2), st(STORE, 1, 3, 0), st(SHARED, 2, 1), st(NULLED, 1)), 4, 160);
        Due.is("item(2, 2) stays", Due.item(m, 2, 2), 4);
        Due.is("long of it", thrown(chain(st(MAKE, 1, 0), st(NULLED, 1), st(LONG, 5, 1)), 4), NULL);
    }

    private static void sharedRows() {
        Due.sentence("11 SAME r s: ROW r is ROW s.");
        fresh();
        int share = st(SHARED, 2, 1);
        Due.is("of a null row", run(chain(st(MAKE, 2, 0), share), 4, 160), END);
        Due.is("size(2)", m.size(2), NONE);
        run(chain(st(MAKE, 1, 0), share, put(3, 9), st(STORE, 2, 4, 3)), 4, 160);
        Due.is("item(1, 0), stored by row 2", Due.item(m, 1, 0), 9);
        run(chain(st(MAKE, 1, 0), share, put(3, 8), st(STORE, 1, 4, 3)), 4, 160);
        Due.is("item(2, 0), stored by row 1", Due.item(m, 2, 0), 8);
        run(chain(st(MAKE, 0, 0), st(MAKE, 1, 0), share, st(MAKE, 3, 0), put(3, 7), st(STORE, 2, 4, 3)), 4, 160);
        Due.is("item(1, 0), stored by row 2 of four", Due.item(m, 1, 0), 7);
        Due.is("item(0, 0), another row", Due.item(m, 0, 0), 0);
        Due.is("item(3, 0), another row", Due.item(m, 3, 0), 0);
        run(chain(st(MAKE, 1, 0), st(SHARED, 1, 1)), 4, 160);
        Due.is("size(1), its own", m.size(1), 4);
    }

    public static void main(String[] args) {
        rowsAreNullAtFirst();
        newRows();
        theMostItems();
        sizesBelow0();
        loads();
        stores();
        nullThenIndex();
        lengths();
        nulledRows();
        sharedRows();
        Due.end();
    }
}
