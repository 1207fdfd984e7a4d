/** Promise 6: what is told of the latest run. */
public final class ToldTest extends Sorts {
    private static void answer() {
        Due.sentence("what = 0 its answer (NONE: there was none)");
        fresh();
        Due.is("told(0) ahead of a run", m.told(0), NONE);
        int[] parts = {put(1, 1), st(RETURN, 0), st(RAISE, 0), endless(1)};
        m.run(0, 0, 160);
        Due.is("told(0) behind a refused run", m.told(0), NONE);
        for (int how = STOPPED; how >= END; how--) {
            run(parts[how]);
            Due.is("told(0)", m.told(0), how);
        }
        m.run(0, 0, 161);
        Due.is("told(0) behind a refused run", m.told(0), END);
    }

    private static void ofTheLatestRun() {
        Due.sentence("Of the latest RUN");
        fresh();
        run(st(RAISE, 0), 5, 160);
        run(put(1, 1), 5, 160);
        dueTold("the second run", END, 0, 0, 0, 2, 0, 1, 0, 0);
        m.body(1, st(RETURN, 0));
        m.same(1, 6, 0, 160);
        dueTold("the second run of same", RETURNED, 0, 0, 6, 2, 0, 1, 0, 0);
    }

    private static void kind() {
        Due.sentence("1 the KIND that it THREW (else 0)");
        for (int kind = NULL; kind <= DEEP; kind++) {
            fresh();
            int thrower = thrower(kind);
            run(thrower);
            dueTold("a throw", THREW, kind, 0);
            run(st(TRY, thrower, ALL_KINDS, put(1, 1)));
            Due.is("told(1) of one that was handled", m.told(1), 0);
            run(st(LAST, thrower, st(RETURN, 0)));
            Due.is("told(1) of one that a return took the place of", m.told(1), 0);
            run(chain(st(TRY, thrower, ALL_KINDS, put(1, 1)), endless(1)));
            Due.is("told(1) of one that was stopped behind it", m.told(1), 0);
            run(st(TRY, thrower, ALL_KINDS, put(1, 1)), 0, kind == DEEP ? 18 : 3);
            Due.is("told(0) of one that was stopped at its handler", m.told(0), STOPPED);
            Due.is("told(1) of one that was stopped at its handler", m.told(1), 0);
        }
    }

    private static void number() {
        Due.sentence("2 the number of an OWN one (else 0)");
        fresh();
        int raise = st(RAISE, 0);
        for (int x : new int[] {0, 9, -9, MIN, MAX}) {
            run(raise, x, 160);
            Due.is("told(2)", m.told(2), x);
        }
        run(st(TRY, raise, ALL_KINDS, thrower(ZERO)), 9, 160);
        dueTold("another kind behind it", THREW, ZERO, 0);
        run(st(TRY, raise, ALL_KINDS, put(1, 1)), 9, 160);
        dueTold("an end behind it", END, 0, 0);
        run(st(LAST, raise, st(RETURN, 0)), 9, 160);
        dueTold("a return behind it", RETURNED, 0, 0);
        run(st(LAST, raise, put(1, 1)), 9, 5);
        dueTold("a stop behind it", STOPPED, 0, 0);
    }

    private static void result() {
        Due.sentence("3 RESULT (the latest of any RETURN; 0: none)");
        fresh();
        run(put(1, 1), 5, 160);
        Due.is("told(3) of none", m.told(3), 0);
        int back = st(RETURN, 0);
        run(back, 5, 160);
        Due.is("told(3)", m.told(3), 5);
        m.body(1, back);
        run(chain(st(CALL, 1), put(1, 1)), 5, 160);
        Due.is("told(3), by a call, of a run that ended", m.told(3), 5);
        run(chain(st(CALL, 1), put(0, 6), back), 5, 160);
        Due.is("told(3), the latest of two", m.told(3), 6);
        run(chain(back, put(0, 6), back), 5, 160);
        Due.is("told(3), what is behind a return is not done", m.told(3), 5);
        run(chain(st(CALL, 1), put(0, 6), st(RAISE, 0)), 5, 160);
        Due.is("told(3) of a run that threw", m.told(3), 5);
        run(st(LAST, st(RAISE, 0), chain(put(0, 6), back)), 5, 160);
        Due.is("told(3) by a last part", m.told(3), 6);
        run(st(LAST, back, chain(put(0, 6), st(CALL, 1))), 5, 160);
        dueTold("told(3) by a call in a last part", RETURNED, 0, 0, 6);
        run(st(LAST, endless(1), back), 5, 20);
        dueTold("told(3) by the reserve", STOPPED, 0, 0, 5);
    }

    private static void prices() {
        Due.sentence("4 the PRICES of all MARKS together but those by RESERVE");
        fresh();
        int handled = st(TRY, st(RAISE, 0), ALL_KINDS, st(MAKE, 1, 0));
        m.body(1, st(LAST, handled, put(1, 1)));
        run(st(CALL, 1), 9, 160);
        Due.is("told(4)", m.told(4), 2 + 2 + 10 + 3 + 10);
        run(st(CALL, 1), 9, 26);
        Due.is("told(4) without the price that the budget did not do for", m.told(4), 17);
        run(st(CALL, 1), 9, 0);
        Due.is("told(4) without any", m.told(4), 0);
        run(st(LOOP, 0, put(1, 1)), 9, 160);
        Due.is("told(4), the most", m.told(4), 160);
        run(st(LAST, endless(1), endless(1)), 9, 160);
        Due.is("told(4), the most, and a reserve", m.told(4), 160);
    }

    private static void reservedPrices() {
        Due.sentence("5 those by RESERVE");
        fresh();
        int last = st(LAST, endless(1), put(2, 1));
        run(put(2, 1), 0, 160);
        Due.is("told(5) of a run that was not stopped", m.told(5), 0);
        run(st(LAST, put(1, 1), put(2, 1)), 0, 160);
        Due.is("told(5) of a last part by the budget", m.told(5), 0);
        run(endless(1), 0, 160);
        Due.is("told(5) without a last part", m.told(5), 0);
        run(last, 0, 160);
        Due.is("told(5)", m.told(5), 10);
        run(st(LAST, last, endless(1)), 0, 160);
        Due.is("told(5), the most", m.told(5), 40);
        dueTold("the most", STOPPED, 0, 0, 0, 160, 40);
    }

    private static void methods() {
        Due.sentence("6 the most METHODS under way at one time");
        fresh();
        int call2 = st(CALL, 2);
        m.body(2, put(1, 1));
        m.body(1, chain(call2, call2));
        run(chain(st(CALL, 1), call2, st(CALL, 1)));
        Due.is("told(6)", m.told(6), 3);
        run(chain(call2, call2, call2));
        Due.is("told(6), one behind the other", m.told(6), 2);
        run(put(1, 1));
        Due.is("told(6) of one", m.told(6), 1);
        run(st(CALL, 5));
        Due.is("told(6), a call of none", m.told(6), 1);
        m.body(0, st(CALL, 0));
        m.run(0, 0, 160);
        Due.is("told(6), the most", m.told(6), 8);
        m.run(0, 0, 11);
        Due.is("told(6), stopped at the sixth entry", m.told(6), 5);
        m.run(0, 0, 1);
        Due.is("told(6), stopped at the first entry", m.told(6), 0);
    }

    private static void locks() {
        Due.sentence("7 the most that a LOCK had at one time");
        fresh();
        int one = put(1, 1);
        run(one);
        Due.is("told(7) of none", m.told(7), 0);
        int mixed = guarded(0, 1, guarded(1, 2, guarded(0, 1, guarded(3, 1, one))));
        run(mixed);
        Due.is("told(7) of one lock, not of all", m.told(7), 2);
        run(chain(guarded(3, 3, one), guarded(2, 2, one)));
        Due.is("told(7), not the last one's", m.told(7), 3);
        run(chain(guarded(3, 1, one), guarded(3, 1, one)));
        Due.is("told(7), one behind the other", m.told(7), 1);
        run(guarded(3, 4, st(RAISE, 0)));
        Due.is("told(7) of a run that threw", m.told(7), 4);
        run(st(LAST, endless(1), guarded(3, 5, one)), 0, 20);
        Due.is("told(7) by the reserve", m.told(7), 5);
    }

    private static void locksAtTheEnd() {
        Due.sentence("8 the sum of the LOCKS at the end");
        fresh();
        m.body(1, guarded(2, 2, st(RETURN, 0)));
        int[] parts = {put(1, 1), st(RETURN, 0), st(RAISE, 0), endless(1), st(CALL, 1)};
        for (int part : parts) {
            run(guarded(0, 1, guarded(1, 2, st(LAST, guarded(3, 2, part), guarded(1, 1, part)))));
            Due.is("told(8)", m.told(8), 0);
        }
        Due.is("told(8) of a run stopped at once", 0, run(guarded(0, 1, parts[0]), 0, 0) == STOPPED ? m.told(8) : BAD);
    }

    private static void bad() {
        Due.sentence("8 the sum of the LOCKS at the end. BAD.");
        fresh();
        for (int time = 0; time < 2; time++) {
            for (int wrong : new int[] {-1, -2, 9, 10, MIN, MAX}) {
                Due.is("told(" + wrong + ")", m.told(wrong), BAD);
            }
            run(put(1, 1));
        }
        Due.is("told(8)", m.told(8), 0);
    }

    private static void aheadOfARun() {
        Due.sentence("(0 for others ahead of one.)");
        fresh();
        for (int what = 1; what <= 8; what++) {
            Due.is("told(" + what + ")", m.told(what), 0);
        }
        m.body(0, guarded(0, 1, st(RAISE, 0)));
        m.run(0, 5, 161);
        for (int what = 1; what <= 8; what++) {
            Due.is("told(" + what + ") behind a refused run", m.told(what), 0);
        }
    }

    public static void main(String[] args) {
        answer();
        ofTheLatestRun();
        kind();
        number();
        result();
        prices();
        reservedPrices();
        methods();
        locks();
        locksAtTheEnd();
        bad();
        aheadOfARun();
        Due.end();
    }
}
