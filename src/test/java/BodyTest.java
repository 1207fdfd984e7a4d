/** Promise 4: bodies of methods. */
public final class BodyTest extends Sorts {
    private static void methodsHaveABodyOrNone() {
        Due.sentence("METHODS 0 .. 7 have a BODY, a STATEMENT, or none.");
        fresh();
        for (int method = 0; method <= 7; method++) {
            Due.is("run(" + method + ") without a body", m.run(method, 0, 160), BAD);
            Due.is("body(" + method + ")", m.body(method, put(1, method)), 1);
            Due.is("run(" + method + ")", m.run(method, 0, 160), END);
            Due.is("variable(1)", m.variable(1), method);
        }
        Due.is("count(5)", m.count(5), 8);
        m.run(3, 0, 160);
        Due.is("variable(1) of method 3 still", m.variable(1), 3);
    }

    private static void aNewBody() {
        Due.sentence("A METHOD's BODY (NONE: none): 1.");
        fresh();
        put(1, 10);
        put(1, 11);
        Due.is("body(2, 0)", m.body(2, 0), 1);
        Due.is("body(2, 1)", m.body(2, 1), 1);
        Due.is("count(5)", m.count(5), 1);
        m.run(2, 0, 160);
        Due.is("variable(1) by the new body", m.variable(1), 11);
        Due.is("body(2, 1) once more", m.body(2, 1), 1);
        Due.is("one statement for two methods", m.body(3, 1), 1);
        Due.is("count(5)", m.count(5), 2);
    }

    private static void none() {
        Due.sentence("(NONE: none)");
        fresh();
        Due.is("body(0, NONE) without one", m.body(0, NONE), 1);
        Due.is("count(5)", m.count(5), 0);
        m.body(0, put(1, 1));
        Due.is("body(0, NONE)", m.body(0, NONE), 1);
        Due.is("count(5)", m.count(5), 0);
        Due.is("run(0)", m.run(0, 0, 160), BAD);
        Due.is("body(7, NONE)", m.body(7, NONE), 1);
    }

    private static void bad() {
        Due.sentence("A METHOD's BODY (NONE: none): 1. BAD.");
        fresh();
        Due.is("body(0, 0) ahead of a statement", m.body(0, 0), BAD);
        put(1, 1);
        put(1, 2);
        m.body(3, 1);
        for (int wrong : new int[] {-1, -2, 8, MIN, MAX}) {
            Due.is("body(" + wrong + ", 0)", m.body(wrong, 0), BAD);
            Due.is("body(" + wrong + ", NONE)", m.body(wrong, NONE), BAD);
        }
        for (int wrong : new int[] {-2, -3, 2, 119, 120, MIN, MAX}) {
            Due.is("body(3, " + wrong + ")", m.body(3, wrong), BAD);
        }
        Due.is("count(5)", m.count(5), 1);
        m.run(3, 0, 160);
        Due.is("variable(1) as before", m.variable(1), 2);
    }

    private static void theHighestStatement() {
        Due.sentence("METHODS 0 .. 7 have a BODY, a STATEMENT");
        fresh();
        for (int i = 0; i < 120; i++) {
            put(1, i);
        }
        Due.is("body(7, 119)", m.body(7, 119), 1);
        Due.is("body(7, 120)", m.body(7, 120), BAD);
        m.run(7, 0, 160);
        Due.is("variable(1)", m.variable(1), 119);
    }

    public static void main(String[] args) {
        methodsHaveABodyOrNone();
        aNewBody();
        none();
        bad();
        theHighestStatement();
        Due.end();
    }
}
