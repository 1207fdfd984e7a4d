/** The numbers of the document by name, and short ways to make and run statements of one object; tests extend it. */
abstract class Sorts {
    static final int PUT = 0, PLUS = 1, LESS = 2, TIMES = 3, BY = 4, REST = 5, MAKE = 6, LOAD = 7, STORE = 8,
        LONG = 9, NULLED = 10, SHARED = 11, BOTH = 12, IF = 13, LOOP = 14, CALL = 15, RETURN = 16, RAISE = 17,
        TRY = 18, LAST = 19, GUARD = 20, GOT = 21;
    static final int NULL = 1, INDEX = 2, SIZE = 3, ZERO = 4, OWN = 5, DEEP = 6;
    static final int BACK = 0, ENTRY = 1, HANDLER = 2, FINAL = 3, MAKING = 4;
    static final int END = 0, RETURNED = 1, THREW = 2, STOPPED = 3;
    static final int NONE = MarkedRuns.NONE, BAD = MarkedRuns.BAD, FULL = MarkedRuns.FULL;
    static final int MIN = Integer.MIN_VALUE, MAX = Integer.MAX_VALUE;
    static final int ALL_KINDS = 127;

    static MarkedRuns m;

    static void fresh() {
        m = new MarkedRuns();
    }

    /** A new statement; the operands that are not given are 0. */
    static int st(int sort, int... operands) {
        int[] all = new int[3];
        System.arraycopy(operands, 0, all, 0, operands.length);
        return m.make(sort, all[0], all[1], all[2]);
    }

    static int put(int x, int n) {
        return st(PUT, x, n);
    }

    /** The statements one behind the other. */
    static int chain(int... parts) {
        int all = parts[parts.length - 1];
        for (int i = parts.length - 2; i >= 0; i--) {
            all = st(BOTH, parts[i], all);
        }
        return all;
    }

    /** A loop, by variable x, that only the end of a budget stops. */
    static int endless(int x) {
        return chain(put(x, 1), st(LOOP, x, put(x, 1)));
    }

    /** Adds 1 to variable x, by variable 6. */
    static int add(int x) {
        return chain(put(6, 1), st(PLUS, x, x, 6));
    }

    /** The statement in as many guards of a lock as are wanted. */
    static int guarded(int lock, int times, int statement) {
        int all = statement;
        for (int i = 0; i < times; i++) {
            all = st(GUARD, lock, all);
        }
        return all;
    }

    /** A statement that throws the kind, an OWN one with the number 0; it uses variable 5, row 3 and method 7. */
    static int thrower(int kind) {
        switch (kind) {
            case NULL:
                return st(LONG, 5, 3);
            case INDEX:
                return chain(put(5, 0), st(MAKE, 3, 5), st(LOAD, 5, 3, 5));
            case SIZE:
                return chain(put(5, -1), st(MAKE, 3, 5));
            case ZERO:
                return chain(put(5, 0), st(BY, 5, 5, 5));
            case OWN:
                return chain(put(5, 0), st(RAISE, 5));
            default:
                m.body(7, st(CALL, 7));
                return st(CALL, 7);
        }
    }

    /** A run of method 0 with the statement as its body. */
    static int run(int statement, int x, int budget) {
        m.body(0, statement);
        return m.run(0, x, budget);
    }

    static int run(int statement) {
        return run(statement, 0, 160);
    }

    /** The kind that a run throws, with NONE if it does not throw. */
    static int thrown(int statement, int x) {
        return run(statement, x, 160) == THREW ? m.told(1) : NONE;
    }

    static void dueTold(String run, int... want) {
        for (int what = 0; what < want.length; what++) {
            Due.is(run + ": told(" + what + ")", m.told(what), want[what]);
        }
    }

    static void dueMarks(String run, int... want) {
        for (int kind = 0; kind < want.length; kind++) {
            Due.is(run + ": marks(" + kind + ")", m.marks(kind), want[kind]);
        }
    }

    /** The statements that began, and none behind them. */
    static void dueBegan(String run, int... want) {
        for (int k = 0; k < want.length; k++) {
            Due.is(run + ": began(" + k + ")", m.began(k), want[k]);
        }
        Due.is(run + ": began(" + want.length + ")", m.began(want.length), NONE);
    }
}
