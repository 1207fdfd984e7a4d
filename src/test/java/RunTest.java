/** Promise 5: what each sort of statement does in a run, and its answers. */
public final class RunTest {
    private static MarkedRuns m;

    private static void body(int... parts) {
        m.body(0, Sorts.chain(m, parts));
    }

    private static void fresh() {
        m = new MarkedRuns();
    }

    private static int calculate(int sort, int y, int z) {
        fresh();
        body(Sorts.put(m, 1, y), Sorts.put(m, 2, z), Sorts.put(m, 3, 77), m.make(sort, 3, 1, 2));
        return m.run(0, 0, 2) == Sorts.END ? m.variable(3) : -1000 - m.told(1);
    }

    private static void numbers() {
        int min = Integer.MIN_VALUE;
        int max = Integer.MAX_VALUE;
        Due.is("plus", calculate(Sorts.PLUS, 3, 4), 7);
        Due.is("plus goes round", calculate(Sorts.PLUS, max, 1), min);
        Due.is("less", calculate(Sorts.LESS, 3, 4), -1);
        Due.is("less goes round", calculate(Sorts.LESS, min, 1), max);
        Due.is("times", calculate(Sorts.TIMES, -3, 4), -12);
        Due.is("times goes round", calculate(Sorts.TIMES, 65536, 65537), 65536);
        Due.is("by", calculate(Sorts.BY, -7, 2), -3);
        Due.is("by", calculate(Sorts.BY, 7, -2), -3);
        Due.is("by goes round", calculate(Sorts.BY, min, -1), min);
        Due.is("rest", calculate(Sorts.REST, -7, 2), -1);
        Due.is("rest", calculate(Sorts.REST, 7, -2), 1);
        Due.is("rest of the least", calculate(Sorts.REST, min, -1), 0);
        Due.is("by zero", calculate(Sorts.BY, 5, 0), -1000 - Sorts.ZERO);
        Due.is("variable(3) is left", m.variable(3), 77);
        Due.is("rest by zero", calculate(Sorts.REST, 5, 0), -1000 - Sorts.ZERO);
    }

    private static void rows() {
        fresh();
        int make = m.make(Sorts.MAKE, 1, 0, 0);
        int share = m.make(Sorts.SHARED, 2, 1, 0);
        int store = m.make(Sorts.STORE, 2, 3, 4);
        int forget = m.make(Sorts.NULLED, 2, 0, 0);
        int load = m.make(Sorts.LOAD, 5, 1, 3);
        int length = m.make(Sorts.LONG, 6, 1, 0);
        body(make, share, Sorts.put(m, 3, 2), Sorts.put(m, 4, -9), store, forget, load, length);
        Due.is("run", m.run(0, 3, 160), Sorts.END);
        Due.is("loaded through the other row", m.variable(5), -9);
        Due.is("long", m.variable(6), 3);
        Due.is("size(2)", m.size(2), MarkedRuns.NONE);
        Due.is("size(1)", m.size(1), 3);
        Due.is("index 2 of 2", m.run(0, 2, 160), Sorts.THREW);
        Due.is("told(1)", m.told(1), Sorts.INDEX);
        Due.is("size(2) is shared", m.size(2), 2);
        Due.is("a row below 0", m.run(0, -1, 160), Sorts.THREW);
        Due.is("told(1)", m.told(1), Sorts.SIZE);
        Due.is("a row of none", m.run(0, 0, 3), Sorts.THREW);
        Due.is("told(1)", m.told(1), Sorts.INDEX);
        for (int[] one : new int[][] {{Sorts.LOAD, 1, 1, 3}, {Sorts.STORE, 1, 3, 4}, {Sorts.LONG, 1, 1, 0}}) {
            body(Sorts.put(m, 3, -1), m.make(one[0], one[1], one[2], one[3]));
            Due.is("of a null row", m.run(0, 0, 160), Sorts.THREW);
            Due.is("told(1), null ahead of index", m.told(1), Sorts.NULL);
        }
        body(make, Sorts.put(m, 3, -1), load);
        m.run(0, 5, 160);
        Due.is("told(1) of an index below 0", m.told(1), Sorts.INDEX);
        body(make, forget, m.make(Sorts.SHARED, 1, 2, 0));
        Due.is("a null row shared", m.run(0, 5, 160), Sorts.END);
        Due.is("size(1)", m.size(1), MarkedRuns.NONE);
        fresh();
        body(Sorts.put(m, 1, 0), Sorts.put(m, 2, 5), m.make(Sorts.MAKE, 0, 0, 0), m.make(Sorts.STORE, 0, 1, 2),
            m.make(Sorts.MAKE, 1, 0, 0), m.make(Sorts.STORE, 1, 0, 2));
        m.run(0, 4, 160);
        Due.is("item(0, 0) of the first of two rows", Due.item(m, 0, 0), 5);
        Due.is("item(1, 0) of the second", Due.item(m, 1, 0), 0);
        m.run(0, 4, 4);
        Due.is("size(1) when stopped ahead of it", m.size(1), MarkedRuns.NONE);
    }

    private static void ways() {
        fresh();
        int one = Sorts.put(m, 1, 1);
        int two = Sorts.put(m, 1, 2);
        m.body(0, m.make(Sorts.IF, 0, one, two));
        m.run(0, -1, 2);
        Due.is("if", m.variable(1), 1);
        m.run(0, 0, 2);
        Due.is("else", m.variable(1), 2);
        int back = m.make(Sorts.RETURN, 0, 0, 0);
        int raise = m.make(Sorts.RAISE, 0, 0, 0);
        body(back, one);
        Due.is("return", m.run(0, 6, 2), Sorts.RETURNED);
        Due.is("both ends at a return", m.variable(1), 0);
        body(raise, one);
        Due.is("raise", m.run(0, 6, 2), Sorts.THREW);
        Due.is("both ends at a throw", m.variable(1), 0);
        m.body(0, m.make(Sorts.LOOP, 0, back, 0));
        Due.is("loop ends at a return", m.run(0, 6, 2), Sorts.RETURNED);
        Due.is("loop of 0", m.run(0, 0, 2), Sorts.END);
        Due.is("no way back", m.marks(Sorts.BACK), 0);
        int call = m.make(Sorts.CALL, 1, 0, 0);
        m.body(1, back);
        body(call, m.make(Sorts.GOT, 2, 0, 0), one);
        Due.is("the return of a call is its end", m.run(0, 6, 4), Sorts.END);
        Due.is("got", m.variable(2), 6);
        Due.is("behind the call", m.variable(1), 1);
        m.body(1, raise);
        Due.is("the throw of a call", m.run(0, 6, 4), Sorts.THREW);
        Due.is("told(2)", m.told(2), 6);
        m.body(1, MarkedRuns.NONE);
        Due.is("a call of none", m.run(0, 6, 2), Sorts.THREW);
        Due.is("told(1)", m.told(1), Sorts.NULL);
        body(m.make(Sorts.GOT, 0, 0, 0));
        m.run(0, 6, 2);
        Due.is("got ahead of any return", m.variable(0), 0);
    }

    private static void handlers() {
        for (int kind = 1; kind <= 6; kind++) {
            fresh();
            int thrower = thrower(kind);
            int after = Sorts.put(m, 6, 1);
            m.body(0, m.make(Sorts.TRY, thrower, 1 << kind, after));
            Due.is("kind " + kind + " taken", m.run(0, 0, 160), Sorts.END);
            Due.is("variable(7)", m.variable(7), kind == Sorts.OWN ? 100 : kind);
            Due.is("variable(6)", m.variable(6), 1);
            m.body(0, m.make(Sorts.TRY, thrower, 127 - (1 << kind), after));
            Due.is("kind " + kind + " not taken", m.run(0, 0, 160), Sorts.THREW);
            Due.is("told(1)", m.told(1), kind);
            Due.is("variable(6)", m.variable(6), 0);
            Due.is("variable(7)", m.variable(7), 0);
        }
        fresh();
        int raise = m.make(Sorts.RAISE, 0, 0, 0);
        int more = m.make(Sorts.RAISE, 7, 0, 0);
        int inner = m.make(Sorts.TRY, raise, 127, more);
        m.body(0, inner);
        Due.is("a throw of the handler", m.run(0, 7, 160), Sorts.THREW);
        Due.is("told(2)", m.told(2), 107);
        m.run(0, Integer.MAX_VALUE, 160);
        Due.is("100 and the number go round", m.told(2), Integer.MIN_VALUE + 99);
        m.body(0, m.make(Sorts.TRY, inner, 32, m.make(Sorts.RETURN, 7, 0, 0)));
        Due.is("an outer handler", m.run(0, 7, 160), Sorts.RETURNED);
        Due.is("told(3)", m.told(3), 207);
        m.body(0, m.make(Sorts.TRY, raise, 127, m.make(Sorts.LOOP, 1, more, 0)));
        Due.is("a handler that does nothing", m.run(0, 7, 160), Sorts.END);
        m.body(0, m.make(Sorts.TRY, Sorts.put(m, 1, 1), 127, more));
        Due.is("nothing to handle", m.run(0, 7, 2), Sorts.END);
        m.body(0, m.make(Sorts.TRY, m.make(Sorts.RETURN, 0, 0, 0), 127, more));
        Due.is("a return is not handled", m.run(0, 7, 2), Sorts.RETURNED);
    }

    /** A statement that throws the kind, made for a run whose variable 0 is 0. */
    private static int thrower(int kind) {
        switch (kind) {
            case Sorts.NULL:
                return m.make(Sorts.LONG, 1, 0, 0);
            case Sorts.INDEX:
                return Sorts.chain(m, m.make(Sorts.MAKE, 0, 0, 0), m.make(Sorts.LOAD, 1, 0, 0));
            case Sorts.SIZE:
                return Sorts.chain(m, Sorts.put(m, 1, -5), m.make(Sorts.MAKE, 0, 1, 0));
            case Sorts.ZERO:
                return m.make(Sorts.BY, 1, 0, 0);
            case Sorts.OWN:
                return m.make(Sorts.RAISE, 0, 0, 0);
            default:
                m.body(1, m.make(Sorts.CALL, 1, 0, 0));
                return m.make(Sorts.CALL, 1, 0, 0);
        }
    }

    private static void lastParts() {
        fresh();
        int raise = m.make(Sorts.RAISE, 0, 0, 0);
        int back = m.make(Sorts.RETURN, 0, 0, 0);
        int plain = Sorts.put(m, 1, 8);
        int quiet = m.make(Sorts.TRY, m.make(Sorts.BY, 2, 2, 2), 127, plain);
        int[] parts = {plain, back, raise};
        for (int s = 0; s < 3; s++) {
            for (int t = 0; t < 3; t++) {
                m.body(0, m.make(Sorts.LAST, parts[s], parts[t], 0));
                Due.is("last of " + s + " and " + t, m.run(0, 5, 12), t == 0 ? s : t);
                Due.is("told(2)", m.told(2), (t == 0 ? s : t) == Sorts.THREW ? 5 : 0);
            }
        }
        m.body(0, m.make(Sorts.LAST, raise, quiet, 0));
        Due.is("what S threw is not lost by a handler in T", m.run(0, 5, 160), Sorts.THREW);
        Due.is("told(1)", m.told(1), Sorts.OWN);
        Due.is("told(2)", m.told(2), 5);
        m.body(1, m.make(Sorts.RETURN, 3, 0, 0));
        int second = m.make(Sorts.CALL, 1, 0, 0);
        m.body(0, m.make(Sorts.LAST, back, second, 0));
        Due.is("returned as S did", m.run(0, 5, 160), Sorts.RETURNED);
        Due.is("RESULT is the latest", m.told(3), 0);
    }

    private static void badRuns() {
        fresh();
        Sorts.put(m, 1, 1);
        m.body(2, 0);
        Due.is("run", m.run(2, 9, 2), Sorts.END);
        for (int wrong : new int[] {-1, 8, 3, Integer.MIN_VALUE, Integer.MAX_VALUE}) {
            Due.is("run(" + wrong + ")", m.run(wrong, 1, 160), MarkedRuns.BAD);
        }
        for (int wrong : new int[] {-1, 161, Integer.MIN_VALUE, Integer.MAX_VALUE}) {
            Due.is("run with " + wrong, m.run(2, 1, wrong), MarkedRuns.BAD);
        }
        Due.is("variable(0) of the latest run", m.variable(0), 9);
        Due.is("count(0)", m.count(0), 1);
        Due.is("run with 160", m.run(2, 1, 160), Sorts.END);
        Due.is("run with 0", m.run(2, 1, 0), Sorts.STOPPED);
        Due.is("variable(0)", m.variable(0), 1);
        Due.is("variable(1)", m.variable(1), 0);
    }

    public static void main(String[] args) {
        numbers();
        rows();
        ways();
        handlers();
        lastParts();
        badRuns();
        Due.end();
    }
}
