/** Promise 5: the answers of a run, and what is refused. */
public final class RunTest extends Sorts {
    private static void variable0() {
        Due.sentence("A RUN: VARIABLE 0 is x at first");
        fresh();
        int copy = st(PLUS, 1, 0, 2);
        for (int x : new int[] {0, 1, -1, MIN, MAX}) {
            run(copy, x, 160);
            Due.is("variable(0)", m.variable(0), x);
            Due.is("variable(1), as the run read it", m.variable(1), x);
        }
        run(put(0, 4), 9, 160);
        Due.is("only at first", m.variable(0), 4);
    }

    private static void answers() {
        Due.sentence("0 it came to its END, 1 it RETURNED, 2 it THREW, 3 it was STOPPED.");
        fresh();
        int[] parts = {put(1, 1), st(RETURN, 0), st(RAISE, 0), endless(1)};
        for (int how = END; how <= STOPPED; how++) {
            Due.is("run", run(parts[how], 1, 160), how);
            Due.is("told(0)", m.told(0), how);
        }
    }

    private static void methodsWithoutABody() {
        Due.sentence("BAD: the METHOD has no BODY");
        fresh();
        m.body(2, put(1, 1));
        for (int wrong : new int[] {0, 1, 3, 7, -1, -2, 8, MIN, MAX}) {
            Due.is("run(" + wrong + ")", m.run(wrong, 1, 160), BAD);
        }
        Due.is("told(0)", m.told(0), NONE);
        Due.is("run(2)", m.run(2, 1, 160), END);
        m.body(2, NONE);
        Due.is("run(2) without its body", m.run(2, 1, 160), BAD);
    }

    private static void budgets() {
        Due.sentence("budget is not 0 .. 160.");
        fresh();
        int one = put(1, 1);
        for (int wrong : new int[] {-1, -2, 161, 162, 1000, MIN, MAX}) {
            Due.is("run with " + wrong, run(one, 1, wrong), BAD);
        }
        Due.is("told(0)", m.told(0), NONE);
        Due.is("run with 160", run(one, 1, 160), END);
        Due.is("run with 0", run(one, 1, 0), STOPPED);
        Due.is("a loop with 160", run(endless(1), 1, 160), STOPPED);
        Due.is("told(4), all of it", m.told(4), 160);
    }

    /** A run leaves nothing to the next one. */
    private static void runsAreApart() {
        Due.sentence("A RUN has VARIABLES 0 .. 7");
        fresh();
        m.body(1, chain(put(1, 1), st(GUARD, 0, st(MAKE, 2, 1)), st(LAST, st(RETURN, 1), endless(1))));
        Due.is("a run that leaves much", m.run(1, 3, 100), STOPPED);
        Due.is("a run that does nothing", run(st(NULLED, 0), 0, 2), END);
        dueTold("a run that does nothing", END, 0, 0, 0, 2, 0, 1, 0, 0);
        dueMarks("a run that does nothing", 0, 1, 0, 0, 0);
        dueBegan("a run that does nothing");
        for (int x = 0; x <= 7; x++) {
            Due.is("variable(" + x + ")", m.variable(x), 0);
        }
        Due.is("size(2)", m.size(2), NONE);
    }

    private static void anyMethod() {
        Due.sentence("`int run(int method, int x, int budget)`: A RUN");
        fresh();
        for (int method = 0; method <= 7; method++) {
            m.body(method, put(1, 10 + method));
        }
        for (int method = 0; method <= 7; method++) {
            Due.is("run(" + method + ")", m.run(method, 0, 2), END);
            Due.is("variable(1)", m.variable(1), 10 + method);
        }
    }

    public static void main(String[] args) {
        variable0();
        answers();
        methodsWithoutABody();
        budgets();
        runsAreApart();
        anyMethod();
        Due.end();
    }
}
