/** Promise 1: a new object. */
public final class NewObjectTest extends Sorts {
    private static void noStatements() {
        Due.sentence("No STATEMENTS, BODIES");
        fresh();
        Due.is("count(4)", m.count(4), 0);
        Due.is("count(5)", m.count(5), 0);
        Due.is("drop()", m.drop(), BAD);
        Due.is("a body of statement 0", m.body(0, 0), BAD);
        Due.is("a guard of statement 0", st(GUARD, 0, 0), BAD);
        for (int method = 0; method <= 7; method++) {
            Due.is("run(" + method + ")", m.run(method, 0, 160), BAD);
            Due.is("same(" + method + ")", m.same(method, 0, 160, 160), BAD);
        }
    }

    private static void noRun() {
        Due.sentence("no RUN.");
        fresh();
        dueTold("ahead of a run", NONE, 0, 0, 0, 0, 0, 0, 0, 0);
        dueMarks("ahead of a run", 0, 0, 0, 0, 0);
        dueBegan("ahead of a run");
        for (int answer = 0; answer <= 3; answer++) {
            Due.is("count(" + answer + ")", m.count(answer), 0);
        }
        for (int x = 0; x <= 7; x++) {
            Due.is("variable(" + x + ")", m.variable(x), 0);
        }
        for (int row = 0; row <= 3; row++) {
            Due.is("size(" + row + ")", m.size(row), NONE);
            Due.is("item(" + row + ", 0)", Due.item(m, row, 0), Due.NULL_THROWN);
        }
    }

    private static void objectsAreApart() {
        Due.sentence("`MarkedRuns()`: No STATEMENTS, BODIES; no RUN.");
        fresh();
        MarkedRuns first = m;
        run(chain(put(1, 1), st(MAKE, 0, 1)));
        fresh();
        Due.is("count(4) of a second object", m.count(4), 0);
        Due.is("count(5) of a second object", m.count(5), 0);
        Due.is("count(0) of a second object", m.count(0), 0);
        Due.is("told(0) of a second object", m.told(0), NONE);
        Due.is("size(0) of a second object", m.size(0), NONE);
        run(put(1, 2));
        Due.is("variable(1) of the first one", first.variable(1), 1);
        Due.is("count(4) of the first one", first.count(4), 3);
    }

    public static void main(String[] args) {
        noStatements();
        noRun();
        objectsAreApart();
        Due.end();
    }
}
