/** Terms: statements one behind the other, choices, loops, calls and returns. */
public final class WaysTest extends Sorts {
    private static void both() {
        Due.sentence("12 BOTH S T: S, then T (each next one only if the one ahead came to its END).");
        fresh();
        int second = put(2, 1);
        Due.is("behind an end", run(chain(put(2, 3), second)), END);
        Due.is("variable(2), T is behind S", m.variable(2), 1);
        Due.is("behind a return", run(chain(st(RETURN, 0), second), 6, 160), RETURNED);
        Due.is("variable(2)", m.variable(2), 0);
        Due.is("behind a throw", run(chain(st(RAISE, 0), second), 6, 160), THREW);
        Due.is("variable(2)", m.variable(2), 0);
        Due.is("behind a stop", run(chain(endless(1), second)), STOPPED);
        Due.is("variable(2)", m.variable(2), 0);
        Due.is("a T that returns", run(chain(second, st(RETURN, 0))), RETURNED);
        Due.is("a T that throws", run(chain(second, st(RAISE, 0))), THREW);
        int one = add(1);
        Due.is("the same statement twice", run(st(BOTH, one, one)), END);
        Due.is("variable(1)", m.variable(1), 2);
    }

    private static void choices() {
        Due.sentence("13 IF x S T: S, if x is not 0, else T.");
        fresh();
        int choice = st(IF, 0, put(1, 10), put(2, 20));
        for (int x : new int[] {1, -1, MIN, MAX, 256}) {
            Due.is("run of " + x, run(choice, x, 2), END);
            Due.is("variable(1)", m.variable(1), 10);
            Due.is("variable(2)", m.variable(2), 0);
        }
        Due.is("run of 0", run(choice, 0, 2), END);
        Due.is("variable(1)", m.variable(1), 0);
        Due.is("variable(2)", m.variable(2), 20);
        Due.is("an S that changes x", run(st(IF, 0, put(0, 0), put(2, 20)), 1, 2), END);
        Due.is("variable(2)", m.variable(2), 0);
        int ways = st(IF, 0, st(RETURN, 0), st(RAISE, 0));
        Due.is("an S that returns", run(ways, 1, 2), RETURNED);
        Due.is("a T that throws", run(ways, 0, 2), THREW);
    }

    private static void loops() {
        Due.sentence("14 LOOP x S: as long as x is not 0: S.");
        fresh();
        int down = chain(put(1, 1), st(LESS, 0, 0, 1), st(PLUS, 2, 2, 1));
        int loop = st(LOOP, 0, down);
        for (int x : new int[] {0, 1, 2, 100}) {
            Due.is("run of " + x, run(loop, x, 160), END);
            Due.is("times round", m.variable(2), x);
            Due.is("variable(0)", m.variable(0), 0);
        }
        Due.is("x below 0", run(loop, -1, 20), STOPPED);
        Due.is("times round", m.variable(2), 19);
        Due.is("an S that returns", run(st(LOOP, 0, st(RETURN, 0)), 6, 160), RETURNED);
        Due.is("an S that throws", run(st(LOOP, 0, st(RAISE, 0)), 6, 160), THREW);
        m.body(1, st(LOOP, 0, st(RETURN, 0)));
        Due.is("an S that returns out of a call", run(chain(st(CALL, 1), put(2, 8)), 6, 160), END);
        Due.is("variable(2)", m.variable(2), 8);
        Due.is("an S that throws to a handler", run(st(TRY, st(LOOP, 0, st(RAISE, 0)), 32, put(2, 9)), 6, 160), END);
        Due.is("variable(2)", m.variable(2), 9);
        int inner = chain(put(3, 2), st(LOOP, 3, chain(put(1, 1), st(LESS, 3, 3, 1), st(PLUS, 4, 4, 1))));
        Due.is("a loop in a loop", run(st(LOOP, 0, chain(inner, down)), 3, 160), END);
        Due.is("times round the inner one", m.variable(4), 6);
    }

    /** Method 0 calls itself as often as variable 0 says, then does the statement. */
    private static void nest(int statement) {
        m.body(0, st(IF, 0, chain(put(1, 1), st(LESS, 0, 0, 1), st(CALL, 0)), statement));
    }

    private static void deepCalls() {
        Due.sentence("15 CALL m: DEEP, if 8 METHODS are under way");
        fresh();
        nest(put(2, 5));
        Due.is("8 methods", m.run(0, 7, 160), END);
        Due.is("variable(2)", m.variable(2), 5);
        Due.is("9 methods", m.run(0, 8, 160), THREW);
        Due.is("told(1)", m.told(1), DEEP);
        Due.is("variable(2)", m.variable(2), 0);
        nest(st(CALL, 5));
        m.body(5, put(3, 6));
        Due.is("another method as the 8th", m.run(0, 6, 160), END);
        Due.is("variable(3)", m.variable(3), 6);
        Due.is("another method as the 9th", m.run(0, 7, 160), THREW);
        Due.is("told(1)", m.told(1), DEEP);
        int call = st(CALL, 5);
        int calls = chain(call, call, call, call, call, call, call, call, call);
        Due.is("9 calls one behind the other", run(calls), END);
    }

    /** A handler of DEEP goes down once more: 7 methods are under way no more behind the throw. */
    private static void deepTwice() {
        Due.sentence("DEEP, if 8 METHODS are under way");
        fresh();
        nest(put(2, 4));
        int again = chain(put(0, 6), st(CALL, 0));
        m.body(1, st(TRY, chain(put(0, 9), st(CALL, 0)), 1 << DEEP, again));
        Due.is("run", m.run(1, 0, 160), END);
        Due.is("variable(7)", m.variable(7), DEEP);
        Due.is("variable(2)", m.variable(2), 4);
        dueTold("run", END, 0, 0, 0, 2 + 14 + 10 + 14, 0, 8);
    }

    private static void callsOfNone() {
        Due.sentence("NULL: METHOD m has no BODY");
        fresh();
        int call = chain(st(CALL, 5), put(2, 1));
        Due.is("a call of none", thrown(call, 0), NULL);
        Due.is("variable(2)", m.variable(2), 0);
        m.body(5, put(3, 1));
        Due.is("a call of one", run(call), END);
        m.body(5, NONE);
        Due.is("a call of none again", thrown(call, 0), NULL);
    }

    private static void deepIsAheadOfNull() {
        Due.sentence("DEEP, if 8 METHODS are under way; NULL: METHOD m has no BODY");
        fresh();
        nest(st(CALL, 5));
        m.run(0, 6, 160);
        Due.is("told(1) of 7 methods", m.told(1), NULL);
        m.run(0, 7, 160);
        Due.is("told(1) of 8 methods", m.told(1), DEEP);
    }

    private static void endsOfCalls() {
        Due.sentence("else its BODY, whose END and RETURN are the END.");
        fresh();
        int call = chain(st(CALL, 1), put(2, 1));
        m.body(1, put(3, 1));
        Due.is("an end", run(call), END);
        Due.is("variable(2)", m.variable(2), 1);
        m.body(1, chain(st(RETURN, 0), put(3, 1)));
        Due.is("a return", run(call), END);
        Due.is("variable(2)", m.variable(2), 1);
        Due.is("variable(3)", m.variable(3), 0);
        m.body(1, st(RAISE, 0));
        Due.is("a throw", run(call, 8, 160), THREW);
        Due.is("told(2)", m.told(2), 8);
        Due.is("variable(2)", m.variable(2), 0);
        m.body(1, endless(3));
        Due.is("a stop", run(call), STOPPED);
        Due.is("variable(2)", m.variable(2), 0);
    }

    private static void returns() {
        Due.sentence("16 RETURN x: RESULT is x (0 at first); it RETURNS.");
        fresh();
        for (int x : new int[] {6, 0, -1, MIN, MAX}) {
            Due.is("run of " + x, run(st(RETURN, 0), x, 160), RETURNED);
            Due.is("told(3)", m.told(3), x);
        }
        Due.is("a run without", run(put(1, 1), 5, 160), END);
        Due.is("told(3), 0 at first", m.told(3), 0);
    }

    private static void got() {
        Due.sentence("21 GOT x: x is RESULT.");
        fresh();
        int got = st(GOT, 2);
        run(st(RETURN, 0), 6, 160);
        Due.is("run", run(chain(put(2, 9), got)), END);
        Due.is("variable(2), ahead of a return", m.variable(2), 0);
        m.body(1, st(RETURN, 0));
        run(chain(st(CALL, 1), put(0, 4), got), -6, 160);
        Due.is("variable(2), behind a return", m.variable(2), -6);
        run(chain(st(CALL, 1), put(0, 4), st(CALL, 1), got), -6, 160);
        Due.is("variable(2), behind two returns", m.variable(2), 4);
        m.body(2, put(3, 1));
        run(chain(st(CALL, 1), st(CALL, 2), got), -6, 160);
        Due.is("variable(2), behind a call without a return", m.variable(2), -6);
    }

    private static void theSameForAllMethods() {
        Due.sentence("the same for all METHODS");
        fresh();
        m.body(1, chain(st(PLUS, 2, 2, 2), st(STORE, 1, 3, 2), st(GUARD, 2, put(4, 1))));
        run(chain(put(2, 5), st(MAKE, 1, 0), guarded(2, 2, st(CALL, 1)), st(LOAD, 5, 1, 3)), 1, 160);
        Due.is("a variable", m.variable(2), 10);
        Due.is("a row", m.variable(5), 10);
        Due.is("a lock", m.told(7), 3);
    }

    public static void main(String[] args) {
        both();
        choices();
        loops();
        deepCalls();
        deepTwice();
        callsOfNone();
        deepIsAheadOfNull();
        endsOfCalls();
        returns();
        got();
        theSameForAllMethods();
        Due.end();
    }
}
