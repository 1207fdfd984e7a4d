/** Promise 13: runs by their answers, statements, methods with a body. */
public final class CountTest extends Sorts {
    private static void dueCounts(String when, int... want) {
        for (int what = 0; what < want.length; what++) {
            Due.is("count(" + what + ") " + when, m.count(what), want[what]);
        }
    }

    private static void runs() {
        Due.sentence("How many RUNS had an answer (0 .. 3) since the beginning");
        fresh();
        m.body(0, put(1, 1));
        m.body(1, st(RETURN, 0));
        m.body(2, st(RAISE, 0));
        dueCounts("at first", 0, 0, 0, 0);
        m.run(0, 0, 160);
        dueCounts("behind an end", 1, 0, 0, 0);
        m.run(1, 0, 160);
        m.run(1, 0, 160);
        dueCounts("behind two returns", 1, 2, 0, 0);
        m.run(2, 0, 160);
        dueCounts("behind a throw", 1, 2, 1, 0);
        m.run(2, 0, 0);
        dueCounts("behind a stop", 1, 2, 1, 1);
        m.run(2, 0, 161);
        m.run(7, 0, 160);
        m.same(2, 0, 160, 161);
        m.same(7, 0, 160, 160);
        dueCounts("behind refused runs", 1, 2, 1, 1);
        m.same(2, 0, 1, 2);
        dueCounts("behind same", 1, 2, 2, 2);
        m.same(1, 0, 2, 2);
        dueCounts("behind same", 1, 4, 2, 2);
    }

    private static void statements() {
        Due.sentence("4 STATEMENTS");
        fresh();
        Due.is("count(4)", m.count(4), 0);
        for (int i = 1; i <= 120; i++) {
            put(0, 0);
            Due.is("count(4)", m.count(4), i);
        }
        put(0, 0);
        Due.is("count(4) behind FULL", m.count(4), 120);
        m.drop();
        Due.is("count(4) behind drop()", m.count(4), 119);
        st(PUT, 8, 0);
        Due.is("count(4) behind BAD", m.count(4), 119);
    }

    private static void bodies() {
        Due.sentence("5 METHODS with a BODY");
        fresh();
        put(0, 0);
        for (int method = 0; method <= 7; method++) {
            Due.is("count(5)", m.count(5), method);
            m.body(method, 0);
        }
        Due.is("count(5)", m.count(5), 8);
        m.body(7, 0);
        Due.is("count(5), a new body", m.count(5), 8);
        m.body(7, 1);
        Due.is("count(5), a refused body", m.count(5), 8);
        for (int method = 0; method <= 7; method++) {
            m.body(method, NONE);
            Due.is("count(5)", m.count(5), 7 - method);
        }
        m.body(7, NONE);
        Due.is("count(5), none again", m.count(5), 0);
    }

    private static void bad() {
        Due.sentence("5 METHODS with a BODY. BAD.");
        fresh();
        for (int time = 0; time < 2; time++) {
            for (int wrong : new int[] {-1, -2, 6, 7, MIN, MAX}) {
                Due.is("count(" + wrong + ")", m.count(wrong), BAD);
            }
            run(put(0, 0));
        }
    }

    public static void main(String[] args) {
        runs();
        statements();
        bodies();
        bad();
        Due.end();
    }
}
