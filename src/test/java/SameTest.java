/** Promise 12: whether a run with another budget tells the same. */
public final class SameTest extends Sorts {
    private static int same(int statement, int x, int budget, int other) {
        m.body(0, statement);
        return m.same(0, x, budget, other);
    }

    /** Both orders: what only one of two runs has is seen whichever is first. */
    private static void dueSame(String what, int statement, int budget, int other, int want) {
        Due.is(what, same(statement, 1, budget, other), want);
        Due.is(what + ", the other way", same(statement, 1, other, budget), want);
    }

    private static void theOneWithOtherIsLast() {
        Due.sentence("(two RUNS are done, the one with other last)");
        fresh();
        int row = chain(put(1, 3), st(MAKE, 1, 1), endless(2));
        same(row, 7, 20, 30);
        Due.is("told(4)", m.told(4), 30);
        same(row, 7, 30, 20);
        Due.is("told(4)", m.told(4), 20);
        Due.is("marks(BACK)", m.marks(BACK), 17);
        same(row, 7, 30, 2);
        Due.is("size(1)", m.size(1), NONE);
        Due.is("variable(1)", m.variable(1), 3);
        same(row, 8, 0, 30);
        Due.is("size(1)", m.size(1), 3);
        Due.is("item(1, 2)", Due.item(m, 1, 2), 0);
        Due.is("variable(0)", m.variable(0), 8);
        Due.is("count(3), two runs each time", m.count(3), 8);
        int last = st(LAST, put(1, 1), put(2, 1));
        same(last, 0, 160, 1);
        dueBegan("stopped at once");
        same(last, 0, 1, 160);
        dueBegan("an end", last);
        run(put(1, 9), 4, 160);
        Due.is("variable(1) of a run behind it", m.variable(1), 9);
        Due.is("variable(2) of a run behind it", m.variable(2), 0);
    }

    private static void theSame() {
        Due.sentence("Whether a RUN with another BUDGET tells the same");
        fresh();
        int loop = chain(put(2, 1), st(LOOP, 2, put(2, 0)));
        dueSame("an end both times", loop, 3, 160, 1);
        Due.is("the same budget", same(loop, 1, 3, 3), 1);
        Due.is("0 both times", same(loop, 1, 0, 0), 1);
        dueSame("0 and 1", loop, 0, 1, 1);
        Due.is("160 both times", same(loop, 1, 160, 160), 1);
        int same = st(LOOP, 0, put(0, 1));
        dueSame("marks and prices do not count", same, 2, 160, 1);
        int spin = st(LOOP, 0, put(0, 1));
        int last = chain(st(LAST, put(2, 1), put(3, 1)), spin);
        dueSame("by budget or by reserve does not count", last, 5, 50, 1);
        m.body(1, st(NULLED, 0));
        dueSame("locks and methods do not count", chain(st(CALL, 1), guarded(1, 2, spin)), 2, 50, 1);
    }

    private static void answers() {
        Due.sentence("tells the same (two RUNS are done, the one with other last): answers");
        fresh();
        int loop = st(LOOP, 0, put(0, 0));
        Due.is("an end and a stop", same(loop, 0, 2, 1), 0);
        Due.is("a stop and an end", same(loop, 0, 1, 2), 0);
        Due.is("a return and a stop", same(st(RETURN, 0), 0, 2, 1), 0);
        Due.is("a throw and a stop", same(st(RAISE, 0), 0, 2, 1), 0);
    }

    /** Without a stop a run is the same by any budget, so that kinds and numbers are other ones only by a stop. */
    private static void kindsAndNumbers() {
        Due.sentence("answers, KINDS, numbers");
        for (int kind = NULL; kind <= DEEP; kind++) {
            fresh();
            dueSame("kind " + kind, thrower(kind), 100, 160, 1);
            Due.is("told(1)", m.told(1), kind);
        }
        fresh();
        Due.is("number", same(st(RAISE, 0), MIN, 2, 160), 1);
        Due.is("told(2)", m.told(2), MIN);
    }

    /** All these are stopped by either budget, with the same variables. */
    private static void results() {
        Due.sentence("RESULTS");
        fresh();
        m.body(1, st(RETURN, 0));
        int call = chain(put(2, 1), st(CALL, 1), st(LOOP, 2, put(2, 1)));
        dueSame("a result and none", call, 2, 50, 0);
        dueSame("the same result", call, 4, 50, 1);
        dueSame("none both times", call, 2, 3, 1);
    }

    private static void variables() {
        Due.sentence("all VARIABLES");
        for (int x = 0; x <= 7; x++) {
            fresh();
            // Behind the price of the call the run goes on: only variable x tells that it did.
            m.body(1, st(NULLED, 0));
            int call = chain(st(CALL, 1), put(x, 5), st(LOOP, 0, put(x, 5)));
            dueSame("variable " + x, call, 2, 50, 0);
            dueSame("variable " + x + " both times", call, 4, 50, 1);
            dueSame("variable " + x + " neither time", call, 2, 3, 1);
        }
    }

    private static void sizes() {
        Due.sentence("sizes and items of ROWS");
        for (int row = 0; row <= 3; row++) {
            fresh();
            int spin = st(LOOP, 0, put(0, 1));
            int none = chain(st(MAKE, row, 2), spin);
            dueSame("null and a row without items", none, 2, 50, 0);
            dueSame("a row without items both times", none, 3, 50, 1);
            dueSame("null both times", none, 0, 2, 1);
            int again = st(LOOP, 0, put(0, 2));
            int two = chain(st(MAKE, row, 0), put(0, 2), put(1, 1), st(MAKE, row, 1), st(MAKE, row, 0), again);
            dueSame("a row of 1 and one of 2", two, 4, 50, 0);
            dueSame("a row of 2 both times", two, 5, 50, 1);
        }
    }

    private static void items() {
        Due.sentence("items of ROWS");
        for (int row = 0; row <= 3; row++) {
            for (int at = 0; at < 3; at++) {
                fresh();
                m.body(1, st(STORE, row, 2, 0));
                int all = chain(put(1, 3), put(2, at), st(MAKE, row, 1), st(CALL, 1), st(LOOP, 0, put(0, 1)));
                dueSame("item " + at + " of row " + row, all, 3, 50, 0);
                dueSame("item " + at + " both times", all, 5, 50, 1);
            }
        }
        fresh();
        // Whether two rows are one is not told: a shared row and one made anew have the same size and items.
        m.body(1, st(SHARED, 2, 1));
        int shared = chain(st(MAKE, 1, 0), st(MAKE, 2, 0), st(CALL, 1), st(LOOP, 0, put(0, 1)));
        dueSame("a row of its own and a shared one", shared, 4, 50, 1);
    }

    private static void bad() {
        Due.sentence("sizes and items of ROWS: 1, 0. BAD.");
        fresh();
        int one = put(1, 1);
        run(one, 9, 160);
        for (int wrong : new int[] {-1, 1, 7, 8, MIN, MAX}) {
            Due.is("same(" + wrong + ")", m.same(wrong, 0, 160, 160), BAD);
        }
        for (int wrong : new int[] {-1, 161, MIN, MAX}) {
            Due.is("same with " + wrong, same(one, 0, wrong, 160), BAD);
            Due.is("same with other " + wrong, same(one, 0, 160, wrong), BAD);
            Due.is("same with both " + wrong, same(one, 0, wrong, wrong), BAD);
        }
        Due.is("variable(0) of the latest run", m.variable(0), 9);
        Due.is("count(0)", m.count(0), 1);
        Due.is("count(3)", m.count(3), 0);
        Due.is("same with 0 and 160", same(one, 0, 0, 160), 0);
    }

    public static void main(String[] args) {
        theOneWithOtherIsLast();
        theSame();
        answers();
        kindsAndNumbers();
        results();
        variables();
        sizes();
        items();
        bad();
        Due.end();
    }
}
