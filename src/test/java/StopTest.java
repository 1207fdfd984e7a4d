/** Promises 5 to 8 where a budget, or the reserve, does not do. */
public final class StopTest {
    private static MarkedRuns m;

    private static void fresh() {
        m = new MarkedRuns();
    }

    private static void stopsAreNotHandled() {
        fresh();
        int spin = m.make(Sorts.LOOP, 0, Sorts.put(m, 0, 1), 0);
        int handler = m.make(Sorts.TRY, spin, 127, Sorts.put(m, 6, 1));
        m.body(0, m.make(Sorts.GUARD, 1, m.make(Sorts.GUARD, 1, handler, 0), 0));
        Due.is("run", m.run(0, 1, 160), Sorts.STOPPED);
        Due.is("variable(6)", m.variable(6), 0);
        Due.is("told(4)", m.told(4), 160);
        Due.is("told(5)", m.told(5), 0);
        Due.is("told(7)", m.told(7), 2);
        Due.is("told(8)", m.told(8), 0);
        Due.is("marks(BACK)", m.marks(Sorts.BACK), 158);
    }

    private static void budgetStays() {
        fresh();
        int raise = m.make(Sorts.RAISE, 0, 0, 0);
        m.body(0, m.make(Sorts.TRY, raise, 127, Sorts.put(m, 6, 1)));
        Due.is("run with 11", m.run(0, 3, 11), Sorts.STOPPED);
        Due.is("told(4)", m.told(4), 2);
        Due.is("marks(HANDLER)", m.marks(Sorts.HANDLER), 0);
        Due.is("variable(7) is behind the mark", m.variable(7), 0);
        Due.is("told(1)", m.told(1), 0);
        Due.is("told(2)", m.told(2), 0);
        Due.is("run with 12", m.run(0, 3, 12), Sorts.END);
        Due.is("told(4)", m.told(4), 12);
    }

    private static void makings() {
        fresh();
        m.body(0, m.make(Sorts.MAKE, 2, 0, 0));
        int[][] prices = {{0, 1}, {3, 1}, {4, 2}, {7, 2}, {8, 3}, {631, 158}, {-1, 1}, {Integer.MIN_VALUE, 1}};
        for (int[] one : prices) {
            String of = "a row of " + one[0];
            Due.is(of, m.run(0, one[0], 2 + one[1]), one[0] < 0 ? Sorts.THREW : Sorts.END);
            Due.is(of + " told(4)", m.told(4), 2 + one[1]);
            Due.is(of + " marks(MAKING)", m.marks(Sorts.MAKING), 1);
            Due.is(of + " size", m.size(2), one[0] < 0 ? MarkedRuns.NONE : one[0]);
            Due.is(of + " with 1 less", m.run(0, one[0], 1 + one[1]), Sorts.STOPPED);
            Due.is(of + " told(4)", m.told(4), 2);
            Due.is(of + " size", m.size(2), MarkedRuns.NONE);
        }
        Due.is("a row of 632", m.run(0, 632, 160), Sorts.STOPPED);
        Due.is("a row of the most", m.run(0, Integer.MAX_VALUE, 160), Sorts.STOPPED);
    }

    /** A LAST of s whose last part adds 1 to the variable. */
    private static int counting(int s, int variable) {
        int one = Sorts.put(m, 6, 1);
        int plus = m.make(Sorts.PLUS, variable, variable, 6);
        return m.make(Sorts.LAST, s, Sorts.chain(m, one, plus), 0);
    }

    private static void reserveIsForFourLastParts() {
        fresh();
        int spin = m.make(Sorts.LOOP, 0, Sorts.put(m, 0, 1), 0);
        int[] lasts = new int[5];
        int all = spin;
        for (int i = 0; i < 5; i++) {
            all = counting(all, i + 1);
            lasts[i] = all;
        }
        m.body(0, all);
        Due.is("run", m.run(0, 1, 50), Sorts.STOPPED);
        Due.is("told(4)", m.told(4), 50);
        Due.is("told(5)", m.told(5), 40);
        Due.is("marks(FINAL)", m.marks(Sorts.FINAL), 4);
        for (int i = 0; i < 5; i++) {
            Due.is("variable " + (i + 1), m.variable(i + 1), i < 4 ? 1 : 0);
            Due.is("began(" + i + ")", m.began(i), i < 4 ? lasts[i] : MarkedRuns.NONE);
        }
    }

    private static void lastPartsThatBeganAreNotDoneAgain() {
        fresh();
        int spin = m.make(Sorts.LOOP, 0, Sorts.put(m, 0, 1), 0);
        int plain = Sorts.put(m, 1, 1);
        int inner = counting(spin, 2);
        int outer = m.make(Sorts.LAST, plain, inner, 0);
        m.body(0, outer);
        Due.is("run", m.run(0, 1, 20), Sorts.STOPPED);
        Due.is("told(4)", m.told(4), 20);
        Due.is("told(5)", m.told(5), 10);
        Due.is("variable(2)", m.variable(2), 1);
        Due.is("began(0)", m.began(0), outer);
        Due.is("began(1)", m.began(1), inner);
        Due.is("began(2)", m.began(2), MarkedRuns.NONE);
    }

    private static void whateverAReservedPartDoes() {
        fresh();
        int spin = m.make(Sorts.LOOP, 0, Sorts.put(m, 0, 1), 0);
        int back = m.make(Sorts.RETURN, 0, 0, 0);
        int raise = m.make(Sorts.RAISE, 0, 0, 0);
        int handled = m.make(Sorts.TRY, m.make(Sorts.LAST, spin, raise, 0), 127, Sorts.put(m, 4, 1));
        int returning = m.make(Sorts.LAST, handled, back, 0);
        m.body(0, Sorts.chain(m, returning, Sorts.put(m, 5, 1)));
        Due.is("run", m.run(0, 1, 30), Sorts.STOPPED);
        Due.is("told(1)", m.told(1), 0);
        Due.is("told(2)", m.told(2), 0);
        Due.is("told(3), by the reserve", m.told(3), 1);
        Due.is("told(5)", m.told(5), 20);
        Due.is("variable(4)", m.variable(4), 0);
        Due.is("variable(5)", m.variable(5), 0);
        Due.is("variable(7)", m.variable(7), 0);
        m.body(0, m.make(Sorts.LAST, spin, m.make(Sorts.TRY, raise, 32, Sorts.put(m, 4, 1)), 0));
        Due.is("a handler inside a reserved part", m.run(0, 1, 30), Sorts.STOPPED);
        Due.is("variable(4)", m.variable(4), 1);
        Due.is("variable(7)", m.variable(7), 101);
        Due.is("told(5)", m.told(5), 20);
        Due.is("marks(HANDLER)", m.marks(Sorts.HANDLER), 1);
    }

    private static void theReserveDoesNotDo() {
        fresh();
        int spin = m.make(Sorts.LOOP, 0, Sorts.put(m, 0, 1), 0);
        int inT = m.make(Sorts.GUARD, 3, counting(spin, 2), 0);
        int first = m.make(Sorts.LAST, spin, inT, 0);
        int second = counting(first, 3);
        m.body(0, second);
        Due.is("run", m.run(0, 1, 9), Sorts.STOPPED);
        Due.is("told(5)", m.told(5), 40);
        Due.is("no last part inside", m.variable(2), 0);
        Due.is("nothing left for the outer one", m.variable(3), 0);
        Due.is("told(7)", m.told(7), 1);
        Due.is("told(8)", m.told(8), 0);
        Due.is("marks(FINAL)", m.marks(Sorts.FINAL), 1);

        // A making too dear for the reserve leaves it as it was, and the outer last part is done by it.
        fresh();
        spin = m.make(Sorts.LOOP, 0, Sorts.put(m, 0, 1), 0);
        int dear = Sorts.chain(m, Sorts.put(m, 5, 120), m.make(Sorts.MAKE, 0, 5, 0));
        first = m.make(Sorts.LAST, spin, counting(dear, 2), 0);
        second = counting(first, 3);
        m.body(0, second);
        Due.is("run", m.run(0, 1, 9), Sorts.STOPPED);
        Due.is("told(5)", m.told(5), 20);
        Due.is("marks(MAKING)", m.marks(Sorts.MAKING), 0);
        Due.is("size(0)", m.size(0), MarkedRuns.NONE);
        Due.is("no last part inside", m.variable(2), 0);
        Due.is("the outer last part", m.variable(3), 1);
        Due.is("began(0)", m.began(0), first);
        Due.is("began(1)", m.began(1), second);
    }

    private static void guardsAndMethodsAsTheyAreThen() {
        fresh();
        int spin = m.make(Sorts.LOOP, 0, Sorts.put(m, 0, 1), 0);
        int held = m.make(Sorts.GUARD, 0, m.make(Sorts.GUARD, 0, spin, 0), 0);
        m.body(1, held);
        int deep = m.make(Sorts.CALL, 1, 0, 0);
        m.body(2, Sorts.put(m, 4, 1));
        int again = m.make(Sorts.GUARD, 0, m.make(Sorts.GUARD, 0, m.make(Sorts.CALL, 2, 0, 0), 0), 0);
        m.body(0, m.make(Sorts.GUARD, 0, m.make(Sorts.LAST, deep, again, 0), 0));
        Due.is("run", m.run(0, 1, 20), Sorts.STOPPED);
        Due.is("inner guards were freed, outer ones are held", m.told(7), 3);
        Due.is("told(8)", m.told(8), 0);
        Due.is("told(6)", m.told(6), 2);
        Due.is("told(5)", m.told(5), 12);
        Due.is("marks(ENTRY)", m.marks(Sorts.ENTRY), 3);
        Due.is("variable(4)", m.variable(4), 1);
    }

    private static void finalStopsTheRun() {
        fresh();
        int raise = m.make(Sorts.RAISE, 0, 0, 0);
        int last = counting(raise, 1);
        m.body(0, m.make(Sorts.TRY, last, 127, Sorts.put(m, 4, 1)));
        Due.is("run with 11", m.run(0, 1, 11), Sorts.STOPPED);
        Due.is("variable(1)", m.variable(1), 1);
        Due.is("variable(4)", m.variable(4), 0);
        Due.is("told(4)", m.told(4), 2);
        Due.is("told(5)", m.told(5), 10);
        Due.is("run with 21", m.run(0, 1, 21), Sorts.STOPPED);
        Due.is("variable(1), done once", m.variable(1), 1);
        Due.is("told(4)", m.told(4), 12);
        Due.is("told(5)", m.told(5), 0);
        Due.is("run with 22", m.run(0, 1, 22), Sorts.END);
        Due.is("variable(4)", m.variable(4), 1);
    }

    private static void entries() {
        fresh();
        m.body(1, Sorts.put(m, 1, 1));
        m.body(0, m.make(Sorts.CALL, 1, 0, 0));
        for (int budget = 0; budget <= 4; budget++) {
            Due.is("run with " + budget, m.run(0, 0, budget), budget < 4 ? Sorts.STOPPED : Sorts.END);
            Due.is("told(4)", m.told(4), budget / 2 * 2);
            Due.is("marks(ENTRY)", m.marks(Sorts.ENTRY), budget / 2);
            Due.is("told(6)", m.told(6), budget / 2);
        }
        m.body(0, m.make(Sorts.CALL, 0, 0, 0));
        Due.is("deep has no price", m.run(0, 0, 16), Sorts.THREW);
        Due.is("told(1)", m.told(1), Sorts.DEEP);
        Due.is("told(4)", m.told(4), 16);
        Due.is("one less", m.run(0, 0, 15), Sorts.STOPPED);
        Due.is("told(6)", m.told(6), 7);
        int toNone = m.make(Sorts.CALL, 5, 0, 0);
        m.body(1, toNone);
        Due.is("a call of none has no price", m.run(1, 0, 2), Sorts.THREW);
        Due.is("told(6)", m.told(6), 1);
    }

    /** Deep is asked ahead of null: the eighth method calls one without a body. */
    private static void deepAheadOfNull() {
        fresh();
        int x = Sorts.put(m, 1, -1);
        int less = m.make(Sorts.PLUS, 0, 0, 1);
        int self = m.make(Sorts.CALL, 0, 0, 0);
        int toNone = m.make(Sorts.CALL, 5, 0, 0);
        m.body(0, m.make(Sorts.IF, 0, Sorts.chain(m, x, less, self), toNone));
        Due.is("run of 7 methods", m.run(0, 6, 160), Sorts.THREW);
        Due.is("told(1)", m.told(1), Sorts.NULL);
        Due.is("run of 8 methods", m.run(0, 7, 160), Sorts.THREW);
        Due.is("told(1)", m.told(1), Sorts.DEEP);
    }

    private static void theDeepestRun() {
        fresh();
        int top = m.make(Sorts.CALL, 0, 0, 0);
        for (int height = 2; height <= 16; height++) {
            top = m.make(Sorts.GUARD, 2, top, 0);
        }
        m.body(0, top);
        Due.is("run", m.run(0, 0, 160), Sorts.THREW);
        Due.is("told(7)", m.told(7), 120);
        Due.is("told(8)", m.told(8), 0);
        Due.is("told(6)", m.told(6), 8);
    }

    /** Statements double at each height, and a loop of them goes on to the end of the budget. */
    private static void theLongestRun() {
        fresh();
        int plus = m.make(Sorts.PLUS, 1, 1, 0);
        for (int height = 2; height <= 15; height++) {
            plus = m.make(Sorts.BOTH, plus, plus, 0);
        }
        m.body(0, m.make(Sorts.LOOP, 0, plus, 0));
        Due.is("run", m.run(0, 1, 160), Sorts.STOPPED);
        Due.is("variable(1)", m.variable(1), 159 * 16384);
    }

    public static void main(String[] args) {
        stopsAreNotHandled();
        budgetStays();
        makings();
        reserveIsForFourLastParts();
        lastPartsThatBeganAreNotDoneAgain();
        whateverAReservedPartDoes();
        theReserveDoesNotDo();
        guardsAndMethodsAsTheyAreThen();
        finalStopsTheRun();
        entries();
        deepAheadOfNull();
        theDeepestRun();
        theLongestRun();
        Due.end();
    }
}
