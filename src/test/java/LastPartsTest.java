/** Terms: last parts and guards, where the budget does. */
public final class LastPartsTest extends Sorts {
    private static void lastPartsAreDone() {
        Due.sentence("19 LAST S T: S; however it ends, T");
        fresh();
        int[] parts = {put(1, 1), st(RETURN, 0), st(RAISE, 0)};
        for (int s = END; s <= THREW; s++) {
            run(st(LAST, parts[s], put(2, 1)), 5, 12);
            Due.is("variable(2) behind an S that ended by " + s, m.variable(2), 1);
            dueMarks("S ended by " + s, 0, 1, 0, 1, 0);
        }
        int order = st(LAST, put(1, 1), chain(put(2, 5), st(PLUS, 3, 1, 2), put(1, 4)));
        run(order, 5, 12);
        Due.is("variable(3), S is ahead of T", m.variable(3), 6);
        Due.is("variable(1)", m.variable(1), 4);
    }

    private static void asSDid() {
        Due.sentence("if T comes to its END, as S did");
        fresh();
        int end = put(1, 1);
        Due.is("an end", run(st(LAST, end, end), 5, 160), END);
        Due.is("a return", run(st(LAST, st(RETURN, 0), end), 5, 160), RETURNED);
        Due.is("told(3)", m.told(3), 5);
        Due.is("a throw", run(st(LAST, st(RAISE, 0), end), 5, 160), THREW);
        dueTold("a throw", THREW, OWN, 5);
        int quiet = st(TRY, thrower(ZERO), ALL_KINDS, end);
        Due.is("a throw that T handles is not S's", run(st(LAST, st(RAISE, 0), quiet), 5, 160), THREW);
        dueTold("S's throw", THREW, OWN, 5);
        m.body(1, st(RETURN, 3));
        Due.is("a return in a call of T is its end", run(st(LAST, st(RAISE, 0), st(CALL, 1)), 5, 160), THREW);
        dueTold("S's throw", THREW, OWN, 5, 0);
        int nested = st(LAST, st(RAISE, 0), st(LAST, end, quiet));
        Due.is("a last part in T", run(nested, 5, 160), THREW);
        dueTold("S's throw", THREW, OWN, 5);
    }

    private static void asTDoes() {
        Due.sentence("else as T does.");
        fresh();
        int[] parts = {put(1, 1), st(RETURN, 0), st(RAISE, 0)};
        int returning = chain(put(0, 8), st(RETURN, 0));
        int throwing = chain(put(0, 9), st(RAISE, 0));
        for (int s = END; s <= THREW; s++) {
            Due.is("a T that returns", run(st(LAST, parts[s], returning), 5, 160), RETURNED);
            dueTold("a T that returns", RETURNED, 0, 0, 8);
            Due.is("a T that throws", run(st(LAST, parts[s], throwing), 5, 160), THREW);
            dueTold("a T that throws", THREW, OWN, 9, s == RETURNED ? 5 : 0);
        }
        Due.is("what T threw is handled", run(st(TRY, st(LAST, parts[0], throwing), 32, put(1, 3)), 5, 160), END);
        Due.is("variable(7)", m.variable(7), 109);
    }

    private static void locksAreFreed() {
        Due.sentence("LOCK k is 1 less, however S ends.");
        fresh();
        int[] parts = {put(1, 1), st(RETURN, 0), st(RAISE, 0), endless(1)};
        for (int s = END; s <= STOPPED; s++) {
            Due.is("an S that ends by " + s, run(guarded(2, 2, parts[s]), 5, 160), s);
            Due.is("told(7)", m.told(7), 2);
            Due.is("told(8)", m.told(8), 0);
        }
        int twice = st(GUARD, 2, st(TRY, st(GUARD, 2, parts[2]), ALL_KINDS, st(GUARD, 2, put(1, 1))));
        run(twice, 5, 160);
        Due.is("told(7), freed ahead of the handler", m.told(7), 2);
        int oneByOne = chain(st(GUARD, 1, put(1, 1)), st(GUARD, 1, put(1, 2)), st(GUARD, 1, put(1, 3)));
        run(oneByOne, 5, 160);
        Due.is("told(7), one behind the other", m.told(7), 1);
    }

    private static void fourLocks() {
        Due.sentence("LOCKS 0 .. 3 (k; 0 at first)");
        fresh();
        int all = put(1, 1);
        for (int lock = 0; lock <= 3; lock++) {
            Due.is("guard of lock " + lock, run(guarded(lock, lock + 1, put(1, 1))), END);
            Due.is("told(7)", m.told(7), lock + 1);
            all = st(GUARD, lock, all);
        }
        run(all);
        Due.is("told(7) of one guard each", m.told(7), 1);
        run(put(1, 1));
        Due.is("told(7) of a run without", m.told(7), 0);
    }

    /** The greatest number that a lock can have: 15 guards in each of 8 methods. */
    private static void theMostGuards() {
        Due.sentence("20 GUARD k S: LOCK k is 1 more, S");
        fresh();
        m.body(0, guarded(3, 15, st(CALL, 0)));
        Due.is("run", m.run(0, 0, 160), THREW);
        Due.is("told(1)", m.told(1), DEEP);
        Due.is("told(7)", m.told(7), 120);
        Due.is("told(8)", m.told(8), 0);
    }

    public static void main(String[] args) {
        lastPartsAreDone();
        asSDid();
        asTDoes();
        locksAreFreed();
        fourLocks();
        theMostGuards();
        Due.end();
    }
}
