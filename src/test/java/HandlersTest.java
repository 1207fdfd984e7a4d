/** Terms: throws and their handlers. */
public final class HandlersTest extends Sorts {
    private static void raises() {
        Due.sentence("17 RAISE x: THROWS OWN with the number x.");
        fresh();
        for (int x : new int[] {7, 0, -1, MIN, MAX}) {
            Due.is("run of " + x, run(st(RAISE, 0), x, 160), THREW);
            Due.is("told(1)", m.told(1), OWN);
            Due.is("told(2)", m.told(2), x);
        }
    }

    private static void kinds() {
        Due.sentence("1 NULL, 2 INDEX, 3 SIZE, 4 ZERO, 5 OWN, 6 DEEP");
        for (int kind = NULL; kind <= DEEP; kind++) {
            fresh();
            Due.is("the kind thrown", thrown(thrower(kind), 0), kind);
        }
    }

    /** All that throws, and its kind; what it reads is 0, or NULL, unless it is put here. */
    private static int[][] throwers() {
        int row = chain(put(5, 0), st(MAKE, 3, 5));
        int below = put(5, -1);
        m.body(7, st(CALL, 7));
        return new int[][] {
            {st(LOAD, 1, 0, 1), NULL}, {st(STORE, 0, 1, 1), NULL}, {st(LONG, 1, 0), NULL}, {st(CALL, 6), NULL},
            {chain(row, st(LOAD, 1, 3, 5)), INDEX}, {chain(row, st(STORE, 3, 5, 5)), INDEX},
            {chain(below, st(MAKE, 3, 5)), SIZE}, {st(BY, 1, 1, 1), ZERO}, {st(REST, 1, 1, 1), ZERO},
            {st(RAISE, 1), OWN}, {st(CALL, 7), DEEP},
        };
    }

    private static void allThatThrows() {
        Due.sentence("A STATEMENT comes to its END, RETURNS, or THROWS a KIND");
        fresh();
        for (int[] one : throwers()) {
            String thrower = "statement " + one[0];
            Due.is(thrower, run(chain(one[0], put(2, 1))), THREW);
            dueTold(thrower, THREW, one[1], 0);
            Due.is(thrower + ": variable(2)", m.variable(2), 0);
            Due.is(thrower + " handled", run(chain(st(TRY, one[0], 1 << one[1], put(2, 1)), put(3, 1))), END);
            Due.is(thrower + ": variable(7)", m.variable(7), one[1] == OWN ? 100 : one[1]);
            Due.is(thrower + ": variable(2)", m.variable(2), 1);
            Due.is(thrower + ": variable(3)", m.variable(3), 1);
        }
    }

    private static void bits() {
        Due.sentence("if that THROWS a KIND k of which n has the bit k (2 to the power of k): T instead");
        for (int kind = NULL; kind <= DEEP; kind++) {
            fresh();
            int thrower = thrower(kind);
            int behind = put(6, 1);
            for (int bit = 0; bit <= 6; bit++) {
                String run = "kind " + kind + " by bit " + bit;
                Due.is(run, run(st(TRY, thrower, 1 << bit, behind)), bit == kind ? END : THREW);
                Due.is(run + ": variable(6)", m.variable(6), bit == kind ? 1 : 0);
            }
            Due.is("by none", thrown(st(TRY, thrower, 0, behind), 0), kind);
            Due.is("by all others", thrown(st(TRY, thrower, 127 - (1 << kind), behind), 0), kind);
            Due.is("by all", run(st(TRY, thrower, 127, behind)), END);
            Due.is("by all but bit 0", run(st(TRY, thrower, 126, behind)), END);
        }
    }

    private static void noThrow() {
        Due.sentence("18 TRY S n T: S; if that THROWS a KIND k");
        fresh();
        int handler = put(6, 1);
        Due.is("an S that ends", run(st(TRY, put(1, 1), ALL_KINDS, handler), 0, 2), END);
        Due.is("variable(6)", m.variable(6), 0);
        Due.is("an S that returns", run(st(TRY, st(RETURN, 0), ALL_KINDS, handler), 0, 2), RETURNED);
        Due.is("variable(6)", m.variable(6), 0);
        dueMarks("a return", 0, 1, 0, 0, 0);
    }

    private static void endsOfHandlers() {
        Due.sentence("T instead");
        fresh();
        int raise = st(RAISE, 0);
        Due.is("a T that ends", run(chain(st(TRY, raise, ALL_KINDS, put(1, 1)), put(2, 1))), END);
        Due.is("variable(2), behind it", m.variable(2), 1);
        Due.is("told(1)", m.told(1), 0);
        Due.is("a T that returns", run(st(TRY, raise, ALL_KINDS, st(RETURN, 7)), 3, 160), RETURNED);
        Due.is("told(3)", m.told(3), 103);
        int again = st(TRY, raise, ALL_KINDS, st(RAISE, 7));
        Due.is("a T that throws is not handled by its own", run(again, 3, 160), THREW);
        Due.is("told(2)", m.told(2), 103);
        Due.is("an outer one handles that", run(st(TRY, again, 1 << OWN, st(RETURN, 7)), 3, 160), RETURNED);
        Due.is("told(3)", m.told(3), 203);
        Due.is("the inner one is first", run(st(TRY, st(TRY, raise, ALL_KINDS, put(1, 1)), ALL_KINDS, put(1, 2))), END);
        Due.is("variable(1)", m.variable(1), 1);
        Due.is("a T that does nothing", run(st(TRY, raise, ALL_KINDS, st(LOOP, 1, raise))), END);
    }

    private static void throughCalls() {
        Due.sentence("if that THROWS a KIND k of which n has the bit k");
        fresh();
        m.body(1, chain(st(GUARD, 0, st(RAISE, 0)), put(1, 1)));
        m.body(2, chain(st(CALL, 1), put(1, 1)));
        int handled = st(TRY, chain(st(CALL, 2), put(1, 1)), 1 << OWN, put(2, 1));
        Due.is("out of two calls", run(handled, 4, 160), END);
        Due.is("variable(1)", m.variable(1), 0);
        Due.is("variable(2)", m.variable(2), 1);
        Due.is("variable(7)", m.variable(7), 104);
    }

    private static void variable7() {
        Due.sentence("VARIABLE 7 is k ahead of T");
        for (int kind = NULL; kind <= DEEP; kind++) {
            if (kind != OWN) {
                fresh();
                run(st(TRY, chain(put(7, 50), thrower(kind)), ALL_KINDS, st(PLUS, 1, 7, 7)));
                Due.is("variable(7) of kind " + kind, m.variable(7), kind);
                Due.is("as T reads it", m.variable(1), 2 * kind);
            }
        }
        fresh();
        run(st(TRY, chain(put(7, 50), thrower(NULL)), 0, put(1, 1)));
        Due.is("variable(7) without a handler", m.variable(7), 50);
        run(st(TRY, thrower(NULL), ALL_KINDS, put(7, 50)));
        Due.is("T is behind it", m.variable(7), 50);
    }

    private static void variable7OfOwn() {
        Due.sentence("(of OWN 100 and its number)");
        fresh();
        int handled = st(TRY, st(RAISE, 0), 1 << OWN, st(PLUS, 1, 7, 2));
        int[][] numbers = {{0, 100}, {7, 107}, {-100, 0}, {-101, -1}, {MAX, MIN + 99}, {MAX - 100, MAX},
            {MIN, MIN + 100}};
        for (int[] one : numbers) {
            Due.is("run of " + one[0], run(handled, one[0], 160), END);
            Due.is("variable(7)", m.variable(7), one[1]);
            Due.is("as T reads it", m.variable(1), one[1]);
        }
    }

    public static void main(String[] args) {
        raises();
        kinds();
        allThatThrows();
        bits();
        noThrow();
        endsOfHandlers();
        throughCalls();
        variable7();
        variable7OfOwn();
        Due.end();
    }
}
