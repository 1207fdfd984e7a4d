/** Promise 8: the statements whose T began behind a handler or a final. */
public final class BeganTest extends Sorts {
    private static void inTheirOrder() {
        Due.sentence("The k-th STATEMENT whose T began behind a HANDLER or a FINAL in the latest RUN");
        fresh();
        int raise = st(RAISE, 0);
        int handled = st(TRY, raise, ALL_KINDS, put(1, 1));
        int quiet = st(TRY, put(1, 1), ALL_KINDS, put(1, 1));
        int last = st(LAST, handled, quiet);
        run(chain(last, handled, last));
        dueBegan("run", handled, last, handled, handled, last);
        int inT = st(LAST, put(1, 1), last);
        run(inT);
        dueBegan("a last part in a last part", inT, handled, last);
        int throwing = st(LAST, put(1, 1), raise);
        run(throwing);
        dueBegan("a T that throws", throwing);
        run(st(TRY, raise, 0, put(1, 1)));
        dueBegan("a throw that is not taken");
        run(put(1, 1));
        dueBegan("a run without");
    }

    private static void byReserve() {
        Due.sentence("(by RESERVE, too; 30 at most, later ones are lost)");
        fresh();
        int handled = st(TRY, st(RAISE, 0), ALL_KINDS, put(1, 1));
        int last = st(LAST, endless(1), handled);
        run(last, 0, 20);
        dueBegan("run", last, handled);
    }

    /** 15 by a budget and 4 by the reserve are the most that a run can have, so none of 30 is ever lost. */
    private static void theMost() {
        Due.sentence("30 at most, later ones are lost");
        fresh();
        int one = st(TRY, st(RAISE, 0), ALL_KINDS, put(1, 1));
        int two = st(BOTH, one, one);
        int four = st(BOTH, two, two);
        int eight = st(BOTH, four, four);
        int[] lasts = new int[5];
        int all = chain(eight, four, two, one, endless(1));
        for (int i = 0; i < 5; i++) {
            all = st(LAST, all, put(2, 1));
            lasts[i] = all;
        }
        Due.is("run", run(all, 0, 160), STOPPED);
        for (int k = 0; k < 15; k++) {
            Due.is("began(" + k + ")", m.began(k), one);
        }
        for (int k = 15; k < 19; k++) {
            Due.is("began(" + k + ")", m.began(k), lasts[k - 15]);
        }
        for (int k = 19; k <= 31; k++) {
            Due.is("began(" + k + ")", m.began(k), NONE);
        }
    }

    private static void noneBegan() {
        Due.sentence("NONE. BAD: k is below 0.");
        fresh();
        Due.is("began(0) ahead of a run", m.began(0), NONE);
        Due.is("began(the most) ahead of a run", m.began(MAX), NONE);
        int last = st(LAST, put(1, 1), put(2, 1));
        run(last);
        Due.is("began(0)", m.began(0), last);
        for (int k : new int[] {1, 2, 29, 30, 31, 1000, MAX}) {
            Due.is("began(" + k + ")", m.began(k), NONE);
        }
        run(last, 0, 1);
        Due.is("began(0) of the next run", m.began(0), NONE);
    }

    private static void below0() {
        Due.sentence("BAD: k is below 0.");
        fresh();
        for (int time = 0; time < 2; time++) {
            for (int k : new int[] {-1, -2, -30, MIN}) {
                Due.is("began(" + k + ")", m.began(k), BAD);
            }
            run(st(LAST, put(1, 1), put(2, 1)));
        }
    }

    private static void notWithoutItsMark() {
        Due.sentence("whose T began behind a HANDLER or a FINAL");
        fresh();
        int handled = st(TRY, st(RAISE, 0), ALL_KINDS, put(1, 1));
        run(handled, 0, 11);
        dueBegan("a handler that the budget does not do for");
        run(handled, 0, 12);
        dueBegan("a handler that it does for", handled);
        int last = st(LAST, handled, put(1, 1));
        run(last, 0, 11);
        dueBegan("only the last part, by the reserve", last);
    }

    public static void main(String[] args) {
        inTheirOrder();
        byReserve();
        theMost();
        noneBegan();
        below0();
        notWithoutItsMark();
        Due.end();
    }
}
