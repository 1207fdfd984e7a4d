/** Promise 7: how many marks of each kind the latest run had. */
public final class MarksTest extends Sorts {
    private static void ofTheLatestRun() {
        Due.sentence("How many MARKS of a KIND the latest RUN had");
        fresh();
        dueMarks("ahead of a run", 0, 0, 0, 0, 0);
        int down = chain(put(1, -1), st(PLUS, 0, 0, 1));
        m.body(1, put(1, 1));
        int handled = st(TRY, st(RAISE, 0), ALL_KINDS, st(CALL, 1));
        int all = st(LAST, chain(st(LOOP, 0, down), handled, st(CALL, 1), st(MAKE, 0, 0)), st(MAKE, 0, 0));
        Due.is("run", run(all, 4, 160), END);
        dueMarks("run", 4, 3, 1, 1, 2);
        run(put(1, 1));
        dueMarks("the next run", 0, 1, 0, 0, 0);
        m.run(0, 0, 161);
        dueMarks("behind a refused run", 0, 1, 0, 0, 0);
        m.same(1, 0, 0, 2);
        dueMarks("the second run of same", 0, 1, 0, 0, 0);
        m.same(1, 0, 2, 0);
        dueMarks("the second run of same", 0, 0, 0, 0, 0);
    }

    private static void byReserve() {
        Due.sentence("(by RESERVE, too)");
        fresh();
        m.body(1, st(MAKE, 0, 2));
        int once = chain(put(3, 1), st(LOOP, 3, put(3, 0)));
        int part = chain(once, st(TRY, st(RAISE, 0), ALL_KINDS, st(CALL, 1)));
        Due.is("run", run(st(LAST, endless(1), part), 0, 7), STOPPED);
        dueMarks("run", 5 + 1, 1 + 1, 1, 1, 1);
        dueTold("run", STOPPED, 0, 0, 0, 7, 10 + 1 + 10 + 2 + 1);
    }

    private static void noneThatWasNotPaid() {
        Due.sentence("the MARK is none");
        fresh();
        Due.is("run", run(st(LAST, put(1, 1), endless(1)), 0, 11), STOPPED);
        dueMarks("one FINAL, by the reserve", 30, 1, 0, 1, 0);
        int five = endless(1);
        for (int i = 0; i < 5; i++) {
            five = st(LAST, five, put(2, 1));
        }
        Due.is("five last parts", run(five, 0, 11), STOPPED);
        dueMarks("five last parts", 9, 1, 0, 4, 0);
    }

    private static void bad() {
        Due.sentence("(by RESERVE, too). BAD.");
        fresh();
        for (int time = 0; time < 2; time++) {
            for (int wrong : new int[] {-1, -2, 5, 6, MIN, MAX}) {
                Due.is("marks(" + wrong + ")", m.marks(wrong), BAD);
            }
            run(put(1, 1));
        }
        Due.is("marks(4)", m.marks(4), 0);
    }

    public static void main(String[] args) {
        ofTheLatestRun();
        byReserve();
        noneThatWasNotPaid();
        bad();
        Due.end();
    }
}
