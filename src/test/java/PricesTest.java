/** Marks and their prices, and budgets that do just so, or do not by 1. */
public final class PricesTest extends Sorts {
    /** Stopped with 1 less than the price, told only what was paid ahead of it; with the price itself as told. */
    private static void duePrice(String what, int statement, int x, int ahead, int price, int answer) {
        Due.is(what + " with " + (ahead + price), run(statement, x, ahead + price), answer);
        Due.is(what + ": told(4)", m.told(4), ahead + price);
        Due.is(what + ": told(5)", m.told(5), 0);
        Due.is(what + " with 1 less", run(statement, x, ahead + price - 1), STOPPED);
        Due.is(what + ": told(4)", m.told(4), ahead);
    }

    private static void back() {
        Due.sentence("0 BACK 1: each time the S of a LOOP came to its END");
        fresh();
        int down = chain(put(1, -1), st(PLUS, 0, 0, 1));
        int loop = st(LOOP, 0, down);
        duePrice("one time round", loop, 1, 2, 1, END);
        duePrice("two times round", loop, 2, 3, 1, END);
        duePrice("all the budget", loop, 158, 159, 1, END);
        Due.is("one more", run(loop, 159, 160), STOPPED);
        dueMarks("one more", 158, 1, 0, 0, 0);
        Due.is("variable(0): S ends ahead of the mark", m.variable(0), 0);
        run(loop, 0, 2);
        dueMarks("no time round", 0, 1, 0, 0, 0);
        Due.is("an S that returns", run(st(LOOP, 0, st(RETURN, 0)), 1, 2), RETURNED);
        dueMarks("an S that returns", 0, 1, 0, 0, 0);
        Due.is("an S that throws", run(st(LOOP, 0, st(RAISE, 0)), 1, 2), THREW);
        dueMarks("an S that throws", 0, 1, 0, 0, 0);
        int some = st(LOOP, 0, chain(down, st(IF, 0, put(2, 1), st(RETURN, 0))));
        Due.is("three times round, the last by a return", run(some, 3, 160), RETURNED);
        dueMarks("three times round", 2, 1, 0, 0, 0);
    }

    private static void entry() {
        Due.sentence("1 ENTRY 2: ahead of a BODY");
        fresh();
        int call = st(CALL, 1);
        m.body(1, chain(put(1, 1), st(RETURN, 1)));
        duePrice("a call", call, 0, 2, 2, END);
        Due.is("variable(1), stopped ahead of the body", m.variable(1), 0);
        Due.is("told(6)", m.told(6), 1);
        duePrice("two calls", chain(call, call), 0, 4, 2, END);
        Due.is("marks(ENTRY)", m.marks(ENTRY), 2);
        m.body(0, st(CALL, 0));
        Due.is("a call that is too deep has none", m.run(0, 0, 16), THREW);
        dueTold("8 methods", THREW, DEEP, 0, 0, 16, 0, 8);
        Due.is("marks(ENTRY)", m.marks(ENTRY), 8);
        Due.is("7 methods and 1", m.run(0, 0, 15), STOPPED);
        dueTold("7 methods", STOPPED, 0, 0, 0, 14, 0, 7);
        Due.is("a call of none has none", run(st(CALL, 5), 0, 2), THREW);
        dueTold("a call of none", THREW, NULL, 0, 0, 2, 0, 1);
        Due.is("marks(ENTRY)", m.marks(ENTRY), 1);
    }

    private static void theRunBeginsWithOne() {
        Due.sentence("the RUN begins with an ENTRY.");
        fresh();
        int one = put(1, 1);
        for (int budget = 0; budget <= 1; budget++) {
            Due.is("run with " + budget, run(one, 7, budget), STOPPED);
            dueTold("run with " + budget, STOPPED, 0, 0, 0, 0, 0, 0, 0, 0);
            dueMarks("run with " + budget, 0, 0, 0, 0, 0);
            Due.is("variable(0)", m.variable(0), 7);
            Due.is("variable(1)", m.variable(1), 0);
        }
        Due.is("run with 2", run(one, 7, 2), END);
        dueTold("run with 2", END, 0, 0, 0, 2, 0, 1, 0, 0);
        dueMarks("run with 2", 0, 1, 0, 0, 0);
        int last = st(LAST, one, one);
        Due.is("a last part ahead of whose S it was stopped", run(last, 7, 1), STOPPED);
        dueTold("no last part is under way", STOPPED, 0, 0, 0, 0, 0);
        Due.is("variable(1)", m.variable(1), 0);
    }

    private static void handler() {
        Due.sentence("2 HANDLER 10: ahead of the T of a TRY (and VARIABLE 7)");
        fresh();
        int handled = st(TRY, chain(put(7, 50), st(RAISE, 0)), ALL_KINDS, put(1, 1));
        duePrice("a handler", handled, 3, 2, 10, END);
        Due.is("variable(7), stopped ahead of it", m.variable(7), 50);
        Due.is("variable(1)", m.variable(1), 0);
        dueMarks("stopped", 0, 1, 0, 0, 0);
        dueBegan("stopped");
        dueTold("stopped", STOPPED, 0, 0);
        Due.is("a throw that it does not take", run(st(TRY, st(RAISE, 0), 0, put(1, 1)), 3, 2), THREW);
        dueMarks("a throw that it does not take", 0, 1, 0, 0, 0);
    }

    private static void lastPart() {
        Due.sentence("3 FINAL 10: ahead of the T of a LAST");
        fresh();
        int last = st(LAST, put(1, 1), put(2, 1));
        Due.is("run with 12", run(last, 0, 12), END);
        dueTold("run with 12", END, 0, 0, 0, 12, 0);
        dueMarks("run with 12", 0, 1, 0, 1, 0);
        Due.is("run with 11", run(last, 0, 11), STOPPED);
        dueTold("run with 11", STOPPED, 0, 0, 0, 2, 10);
        dueMarks("run with 11", 0, 1, 0, 1, 0);
        Due.is("a T that throws had its mark", run(st(LAST, put(1, 1), st(RAISE, 0)), 0, 12), THREW);
        dueMarks("a T that throws", 0, 1, 0, 1, 0);
    }

    private static void making() {
        Due.sentence("4 MAKING: ahead of a ROW's, or a SIZE's: 1 and a quarter of the items, rounded down");
        int[][] prices = {{0, 1}, {1, 1}, {3, 1}, {4, 2}, {5, 2}, {7, 2}, {8, 3}, {100, 26}, {628, 158}, {631, 158}};
        for (int[] one : prices) {
            fresh();
            String row = "a row of " + one[0];
            int make = st(MAKE, 2, 0);
            Due.is(row, run(make, one[0], 2 + one[1]), END);
            Due.is(row + ": size(2)", m.size(2), one[0]);
            dueMarks(row, 0, 1, 0, 0, 1);
            duePrice(row, make, one[0], 2, one[1], END);
            Due.is(row + " stopped: size(2)", m.size(2), NONE);
            dueMarks(row + " stopped", 0, 1, 0, 0, 0);
        }
        fresh();
        Due.is("a row of 632", run(st(MAKE, 2, 0), 632, 160), STOPPED);
        Due.is("a row of the most", run(st(MAKE, 2, 0), MAX, 160), STOPPED);
        Due.is("told(4)", m.told(4), 2);
        int over = chain(put(1, 5), st(MAKE, 2, 1), st(MAKE, 2, 0));
        Due.is("a row of 632 over one of 5", run(over, 632, 160), STOPPED);
        Due.is("size(2), stopped ahead of it", m.size(2), 5);
    }

    private static void makingBelow0() {
        Due.sentence("(of a number below 0: 1)");
        for (int size : new int[] {-1, -4, -5, -1000, MIN}) {
            fresh();
            int make = st(MAKE, 2, 0);
            duePrice("a row of " + size, make, size, 2, 1, THREW);
            dueTold("a row of " + size + " stopped", STOPPED, 0, 0);
            run(make, size, 3);
            dueMarks("a row of " + size, 0, 1, 0, 0, 1);
            dueTold("a row of " + size, THREW, SIZE);
        }
    }

    private static void theMarkIsNone() {
        Due.sentence("BUDGET is less by that; if it does not do, the MARK is none, and the RUN is STOPPED there.");
        fresh();
        m.body(1, put(2, 1));
        int behind = put(3, 1);
        int[][] dear = {
            {st(LOOP, 0, put(2, 1)), 2, BACK}, {st(CALL, 1), 3, ENTRY},
            {st(TRY, st(RAISE, 0), 32, put(2, 1)), 11, HANDLER}, {st(MAKE, 0, 0), 2, MAKING},
        };
        for (int[] one : dear) {
            String mark = "mark " + one[2];
            Due.is(mark, run(chain(one[0], behind), 1, one[1]), STOPPED);
            Due.is(mark + ": marks", m.marks(one[2]), one[2] == ENTRY ? 1 : 0);
            Due.is(mark + ": told(4)", m.told(4), 2);
            Due.is(mark + ": variable(3)", m.variable(3), 0);
        }
    }

    private static void theBudgetStays() {
        Due.sentence("The RUN's BUDGET stays as it was when it did not do");
        fresh();
        int dear = st(MAKE, 0, 0);
        int cheap = chain(put(1, 1), st(LOOP, 1, put(1, 0)));
        Due.is("run", run(st(LAST, dear, cheap), 400, 100), STOPPED);
        // 98 are left, but the last part and its loop are the reserve's.
        dueTold("98 left", STOPPED, 0, 0, 0, 2, 11);
        dueMarks("98 left", 1, 1, 0, 1, 0);
    }

    private static void allTogether() {
        Due.sentence("MARKS have a PRICE, by KINDS");
        fresh();
        int one = put(1, 1);
        int less = st(LESS, 0, 0, 1);
        int make = st(MAKE, 0, 1);
        int loop = st(LOOP, 0, chain(one, less, make));
        int handled = st(TRY, thrower(ZERO), 16, make);
        m.body(1, make);
        int all = st(LAST, chain(loop, handled), st(CALL, 1));
        // 2 and 3 times 1 + 1, 10 + 1 by the handler, 10 for the last part, 2 + 1 for its call.
        duePrice("all kinds of marks", all, 3, 31, 1, END);
        run(all, 3, 32);
        dueMarks("all kinds of marks", 3, 2, 1, 1, 5);
    }

    public static void main(String[] args) {
        back();
        entry();
        theRunBeginsWithOne();
        handler();
        lastPart();
        making();
        makingBelow0();
        theMarkIsNone();
        theBudgetStays();
        allTogether();
        Due.end();
    }
}
