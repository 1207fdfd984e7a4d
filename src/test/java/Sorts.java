/** The numbers of the document, named for the tests. */
final class Sorts {
    static final int PUT = 0, PLUS = 1, LESS = 2, TIMES = 3, BY = 4, REST = 5, MAKE = 6, LOAD = 7, STORE = 8,
        LONG = 9, NULLED = 10, SHARED = 11, BOTH = 12, IF = 13, LOOP = 14, CALL = 15, RETURN = 16, RAISE = 17,
        TRY = 18, LAST = 19, GUARD = 20, GOT = 21;
    static final int NULL = 1, INDEX = 2, SIZE = 3, ZERO = 4, OWN = 5, DEEP = 6;
    static final int BACK = 0, ENTRY = 1, HANDLER = 2, FINAL = 3, MAKING = 4;
    static final int END = 0, RETURNED = 1, THREW = 2, STOPPED = 3;

    private Sorts() { }

    static int put(MarkedRuns m, int x, int n) {
        return m.make(PUT, x, n, 0);
    }

    /** The statements one behind the other. */
    static int chain(MarkedRuns m, int... parts) {
        int all = parts[parts.length - 1];
        for (int i = parts.length - 2; i >= 0; i--) {
            all = m.make(BOTH, parts[i], all, 0);
        }
        return all;
    }
}
