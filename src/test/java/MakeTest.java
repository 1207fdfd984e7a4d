/** Promise 2: what each sort takes, and what is refused. */
public final class MakeTest extends Sorts {
    /** What the operands of each sort are: v a variable, r a row, k a lock, m a method, s a statement, n, - nothing. */
    private static final String[] SHAPES = {
        "v--", "vvv", "vvv", "vvv", "vvv", "vvv", "rv-", "vrv", "rvv", "vr-", "r--", "rr-",
        "ss-", "vss", "vs-", "m--", "v--", "v--", "sns", "ss-", "ks-", "v--",
    };

    private static void withTwoStatements() {
        fresh();
        put(0, 1);
        put(0, 2);
    }

    private static void dueMake(int sort, int at, int operand, int want) {
        withTwoStatements();
        int[] operands = {0, 0, 0};
        operands[at] = operand;
        String call = "make(" + sort + ", " + operands[0] + ", " + operands[1] + ", " + operands[2] + ")";
        Due.is(call, m.make(sort, operands[0], operands[1], operands[2]), want);
        Due.is("count(4) behind " + call, m.count(4), want == BAD ? 2 : 3);
    }

    /** Every operand of that shape takes 0 .. highest and nothing else. */
    private static void dueRange(char shape, int highest) {
        for (int sort = 0; sort < SHAPES.length; sort++) {
            for (int at = 0; at < 3; at++) {
                if (SHAPES[sort].charAt(at) == shape) {
                    dueMake(sort, at, 0, 2);
                    dueMake(sort, at, highest, 2);
                    for (int wrong : new int[] {-1, -2, highest + 1, 256, MIN, MAX}) {
                        dueMake(sort, at, wrong, BAD);
                    }
                }
            }
        }
    }

    private static void numbers() {
        Due.sentence("A STATEMENT: its number.");
        fresh();
        for (int sort = 0; sort <= 21; sort++) {
            if (sort < BOTH || sort > LOOP && sort < TRY || sort == GOT) {
                int number = m.count(4);
                Due.is("make of sort " + sort, st(sort, 0, 0, 0), number);
            }
        }
        int count = m.count(4);
        for (int sort : new int[] {BOTH, IF, LOOP, TRY, LAST, GUARD}) {
            Due.is("make of sort " + sort, st(sort, 0, 0, 0), count);
            count++;
        }
    }

    private static void othersDoNotCount() {
        Due.sentence("a, b, c: what its SORT has, in the order told (others do not count).");
        for (int sort = 0; sort < SHAPES.length; sort++) {
            for (int at = 0; at < 3; at++) {
                boolean free = SHAPES[sort].charAt(at) == '-';
                for (int any : new int[] {-1, 1, 8, 1000, MIN, MAX}) {
                    if (free) {
                        dueMake(sort, at, any, 2);
                    }
                }
            }
        }
    }

    /** All operands of a sort are told apart by what a run of it does. */
    private static void inTheOrderTold() {
        Due.sentence("in the order told");
        fresh();
        run(chain(put(1, 20), put(2, 6), st(LESS, 3, 1, 2), st(BY, 4, 1, 2), st(REST, 5, 1, 2)));
        Due.is("LESS x y z", m.variable(3), 14);
        Due.is("BY x y z", m.variable(4), 3);
        Due.is("REST x y z", m.variable(5), 2);
        fresh();
        run(chain(put(1, 3), st(MAKE, 2, 1), put(3, 2), put(4, 9), st(STORE, 2, 3, 4), st(LOAD, 5, 2, 3),
            st(LONG, 6, 2), st(SHARED, 3, 2), st(NULLED, 2)));
        Due.is("STORE r y x, LOAD x r y", m.variable(5), 9);
        Due.is("LONG x r", m.variable(6), 3);
        Due.is("SAME r s", m.size(3), 3);
        Due.is("NONE r", m.size(2), NONE);
        fresh();
        int order = chain(st(IF, 0, put(1, 1), put(1, 2)), st(TRY, thrower(ZERO), 16, put(2, 1)),
            st(LAST, put(3, 1), put(3, 2)), st(GUARD, 1, put(4, 1)));
        Due.is("run", run(order), END);
        Due.is("IF x S T", m.variable(1), 2);
        Due.is("TRY S n T", m.variable(2), 1);
        Due.is("LAST S T", m.variable(3), 2);
        Due.is("GUARD k S", m.variable(4), 1);
    }

    private static void sorts() {
        Due.sentence("BAD: sort is not 0 .. 21");
        for (int sort : new int[] {-1, -2, 22, 23, 256, MIN, MAX}) {
            dueMake(sort, 0, 0, BAD);
        }
        for (int sort = 0; sort <= 21; sort++) {
            dueMake(sort, 0, 0, 2);
        }
    }

    private static void variables() {
        Due.sentence("x, y, z are not 0 .. 7");
        dueRange('v', 7);
    }

    private static void rowsAndLocks() {
        Due.sentence("r, s (ROWS), k not 0 .. 3");
        dueRange('r', 3);
        dueRange('k', 3);
    }

    private static void methods() {
        Due.sentence("m not 0 .. 7");
        dueRange('m', 7);
    }

    private static void parts() {
        Due.sentence("S, T are none that there are");
        dueRange('s', 1);
        withTwoStatements();
        m.drop();
        Due.is("a part that went", st(GUARD, 0, 1), BAD);
        Due.is("a part that stayed", st(GUARD, 0, 0), 1);
    }

    private static void heights() {
        Due.sentence("HEIGHT would be above 16");
        fresh();
        put(0, 0);
        for (int height = 2; height <= 16; height++) {
            Due.is("height " + height, st(LOOP, 0, height - 2), height - 1);
        }
        Due.is("height 17 by S", st(BOTH, 15, 0), BAD);
        Due.is("height 17 by T", st(BOTH, 0, 15), BAD);
        Due.is("height 17 by both", st(LAST, 15, 15), BAD);
        Due.is("count(4)", m.count(4), 16);
        Due.is("height 16 by both", st(LAST, 14, 14), 16);
    }

    private static void bitsOfTry() {
        Due.sentence("n of TRY is not 0 .. 127");
        dueRange('n', 127);
    }

    private static void bit0() {
        Due.sentence("(bit 0 counts for nothing)");
        for (int kind = NULL; kind <= DEEP; kind++) {
            fresh();
            int thrower = thrower(kind);
            Due.is("kind " + kind + " by n = 1", thrown(st(TRY, thrower, 1, put(1, 1)), 0), kind);
            int alone = run(st(TRY, thrower, 1 << kind, put(1, 1)));
            Due.is("kind " + kind + " with bit 0", run(st(TRY, thrower, 1 + (1 << kind), put(1, 1))), alone);
        }
        fresh();
        Due.is("an end by n = 1", run(st(TRY, put(1, 1), 1, put(2, 1))), END);
        Due.is("variable(2)", m.variable(2), 0);
        Due.is("a return by n = 1", run(st(TRY, st(RETURN, 0), 1, put(2, 1))), RETURNED);
        Due.is("a stop by n = 1", run(st(TRY, endless(1), 1, put(2, 1))), STOPPED);
        Due.is("variable(2)", m.variable(2), 0);
    }

    private static void fill() {
        fresh();
        for (int i = 0; i < 120; i++) {
            put(0, i);
        }
    }

    private static void full() {
        Due.sentence("FULL: there are 120.");
        fill();
        for (int sort = 0; sort <= 21; sort++) {
            Due.is("make of sort " + sort, st(sort, 0, 0, 0), FULL);
        }
        Due.is("count(4)", m.count(4), 120);
        Due.is("drop()", m.drop(), 119);
        Due.is("make", st(GUARD, 0, 118), 119);
        Due.is("make", put(0, 0), FULL);
    }

    /** The document tells BAD first where both would do. */
    private static void badIsAheadOfFull() {
        Due.sentence("Calls answer BAD: a number is not as told; FULL: there are 120.");
        fill();
        Due.is("a wrong sort", st(22, 0, 0, 0), BAD);
        Due.is("a wrong variable", st(PUT, 8, 0), BAD);
        Due.is("a wrong part", st(GUARD, 0, 120), BAD);
        Due.is("a wrong n", st(TRY, 0, 128, 0), BAD);
        fresh();
        put(0, 0);
        for (int i = 1; i < 120; i++) {
            st(LOOP, 0, i <= 15 ? i - 1 : 0);
        }
        Due.is("count(4)", m.count(4), 120);
        Due.is("a height of 17", st(LOOP, 0, 15), BAD);
        Due.is("a height of 16", st(LOOP, 0, 14), FULL);
    }

    public static void main(String[] args) {
        numbers();
        othersDoNotCount();
        inTheOrderTold();
        sorts();
        variables();
        rowsAndLocks();
        methods();
        parts();
        heights();
        bitsOfTry();
        bit0();
        full();
        badIsAheadOfFull();
        Due.end();
    }
}
