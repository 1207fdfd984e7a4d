/** Promise 11: the items of rows behind the latest run, and what item throws. */
public final class ItemTest extends Sorts {
    private static final int[] WRONG_ROWS = {-1, -2, 4, 5, MIN, MAX};

    /** Row r of three items, the numbers in variables 1, 2 and 3 by way of it. */
    private static int filled(int row, int first, int second, int third) {
        int[] numbers = {first, second, third};
        int all = chain(put(4, 3), st(MAKE, row, 4));
        for (int i = 0; i < 3; i++) {
            all = chain(all, put(4, i), put(5, numbers[i]), st(STORE, row, 4, 5));
        }
        return all;
    }

    private static void items() {
        Due.sentence("Item i of a ROW behind the latest RUN (any number).");
        for (int row = 0; row <= 3; row++) {
            fresh();
            run(filled(row, MIN, MAX, BAD));
            Due.is("item(" + row + ", 0)", Due.item(m, row, 0), MIN);
            Due.is("item(" + row + ", 1)", Due.item(m, row, 1), MAX);
            Due.is("item(" + row + ", 2)", Due.item(m, row, 2), BAD);
            m.run(0, 0, 161);
            Due.is("item(" + row + ", 0) behind a refused run", Due.item(m, row, 0), MIN);
            run(chain(put(4, 3), st(MAKE, row, 4)));
            Due.is("item(" + row + ", 0) of the next run", Due.item(m, row, 0), 0);
        }
    }

    private static void ofNull() {
        Due.sentence("NullPointerException: it is NULL");
        fresh();
        for (int time = 0; time < 2; time++) {
            for (int row = 0; row <= 2; row++) {
                for (int i : new int[] {0, 1, -1, MIN, MAX}) {
                    Due.is("item(" + row + ", " + i + ")", Due.item(m, row, i), Due.NULL_THROWN);
                }
            }
            run(chain(filled(3, 1, 2, 3), st(SHARED, 2, 3), st(NULLED, 2)));
        }
    }

    private static void noSuchRow() {
        Due.sentence("ArrayIndexOutOfBoundsException: there is no such ROW");
        fresh();
        for (int time = 0; time < 2; time++) {
            for (int row : WRONG_ROWS) {
                Due.is("item(" + row + ", 0)", Due.item(m, row, 0), Due.INDEX_THROWN);
            }
            run(filled(3, 1, 2, 3));
        }
        Due.is("item(3, 0)", Due.item(m, 3, 0), 1);
    }

    private static void noSuchItem() {
        Due.sentence("there is no such ROW, or item");
        fresh();
        run(filled(3, 1, 2, 3));
        for (int i : new int[] {-1, -2, 3, 4, MIN, MAX}) {
            Due.is("item(3, " + i + ")", Due.item(m, 3, i), Due.INDEX_THROWN);
        }
        Due.is("item(3, 2)", Due.item(m, 3, 2), 3);
        run(st(MAKE, 3, 0), 0, 160);
        for (int i : new int[] {-1, 0, 1}) {
            Due.is("item(3, " + i + ") of a row without items", Due.item(m, 3, i), Due.INDEX_THROWN);
        }
        run(chain(st(MAKE, 2, 0), st(MAKE, 3, 0)), 2, 160);
        Due.is("item(2, 2), not the next row's", Due.item(m, 2, 2), Due.INDEX_THROWN);
        Due.is("item(3, -1), not the row's ahead", Due.item(m, 3, -1), Due.INDEX_THROWN);
    }

    private static void theRowFirst() {
        Due.sentence("(the ROW first)");
        fresh();
        for (int row : WRONG_ROWS) {
            for (int i : new int[] {-1, 0, MAX}) {
                Due.is("item(" + row + ", " + i + ") where all rows are null", Due.item(m, row, i), Due.INDEX_THROWN);
            }
        }
        for (int row = 0; row <= 3; row++) {
            Due.is("item(" + row + ", -1), null ahead of the item", Due.item(m, row, -1), Due.NULL_THROWN);
        }
    }

    /** An exception that is thrown is the class itself, with all as it was behind it. */
    private static void exactClasses() {
        Due.sentence("throws NullPointerException, ArrayIndexOutOfBoundsException");
        fresh();
        run(filled(3, 1, 2, 3));
        int[][] calls = {{0, 0}, {4, 0}, {3, 3}};
        for (int[] call : calls) {
            Class<?> thrown = null;
            try {
                m.item(call[0], call[1]);
            } catch (RuntimeException e) {
                thrown = e.getClass();
            }
            Class<?> want = call[0] == 0 ? NullPointerException.class : ArrayIndexOutOfBoundsException.class;
            Due.is("item(" + call[0] + ", " + call[1] + ") throws " + want, thrown == want ? 1 : 0, 1);
            Due.is("item(3, 2) behind it", Due.item(m, 3, 2), 3);
        }
    }

    public static void main(String[] args) {
        items();
        ofNull();
        noSuchRow();
        noSuchItem();
        theRowFirst();
        exactClasses();
        Due.end();
    }
}
