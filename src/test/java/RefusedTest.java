import java.util.ArrayList;
import java.util.List;

/** Nothing changes where a call is refused: all that can be told is the same behind it, and so is the program. */
public final class RefusedTest extends Sorts {
    /** A program of a few statements with a run that leaves something of all kinds. */
    private static void prepare() {
        fresh();
        m.body(1, chain(put(1, 3), st(MAKE, 2, 1), st(STORE, 2, 3, 1), st(RETURN, 1)));
        int handled = st(TRY, st(RAISE, 0), ALL_KINDS, st(GUARD, 1, st(CALL, 1)));
        m.body(0, st(LAST, chain(handled, endless(4)), put(5, 6)));
        m.run(1, 2, 160);
        m.run(1, 2, 2);
        m.run(0, 2, 40);
    }

    private static List<Long> state() {
        List<Long> told = new ArrayList<>();
        for (int what = 0; what <= 8; what++) {
            told.add((long) m.told(what));
        }
        for (int kind = 0; kind <= 4; kind++) {
            told.add((long) m.marks(kind));
        }
        for (int k = 0; k <= 4; k++) {
            told.add((long) m.began(k));
        }
        for (int x = 0; x <= 7; x++) {
            told.add((long) m.variable(x));
        }
        for (int row = 0; row <= 3; row++) {
            told.add((long) m.size(row));
            for (int i = 0; i <= 3; i++) {
                told.add(Due.item(m, row, i));
            }
        }
        for (int what = 0; what <= 5; what++) {
            told.add((long) m.count(what));
        }
        return told;
    }

    private static final int[][] MAKES = {
        {-1, 0, 0, 0}, {22, 0, 0, 0}, {PUT, 8, 0, 0}, {PLUS, 0, -1, 0}, {REST, 0, 0, 8}, {MAKE, 4, 0, 0},
        {LOAD, 0, -1, 0}, {STORE, 0, 0, 8}, {LONG, 0, 4, 0}, {NULLED, -1, 0, 0}, {SHARED, 0, 4, 0}, {BOTH, 0, MAX, 0},
        {IF, 0, 0, -1}, {LOOP, 0, 119, 0}, {CALL, 8, 0, 0}, {RETURN, -1, 0, 0}, {RAISE, 8, 0, 0}, {TRY, 0, 128, 0},
        {LAST, -1, 0, 0}, {GUARD, 4, 0, 0}, {GOT, MIN, 0, 0},
    };

    /** What each of the numbered calls answers to wrong numbers. */
    private static long refused(int call) {
        switch (call) {
            case 0: return m.drop();
            case 1: return m.body(0, m.count(4));
            case 2: return m.body(0, -2);
            case 3: return m.body(8, 0);
            case 4: return m.body(-1, NONE);
            case 5: return m.run(5, 1, 100);
            case 6: return m.run(-1, 1, 100);
            case 7: return m.run(8, 1, 100);
            case 8: return m.run(0, 1, -1);
            case 9: return m.run(0, 1, 161);
            case 10: return m.same(5, 1, 100, 100);
            case 11: return m.same(8, 1, 100, 100);
            case 12: return m.same(0, 1, -1, 100);
            case 13: return m.same(0, 1, 161, 100);
            case 14: return m.same(0, 1, 100, -1);
            case 15: return m.same(0, 1, 100, 161);
            case 16: return m.told(9);
            case 17: return m.told(-1);
            case 18: return m.marks(5);
            case 19: return m.began(-1);
            case 20: return m.size(4);
            case 21: return m.count(6);
            default: return st(MAKES[call - 22][0], MAKES[call - 22][1], MAKES[call - 22][2], MAKES[call - 22][3]);
        }
    }

    private static void dueUnchanged(String what, List<Long> before) {
        Due.is(what + " leaves all that is told", state().equals(before) ? 1 : 0, 1);
    }

    /** Runs once more as prepare did, and asks for what they tell. */
    private static void dueSameProgram(String what, List<Long> before) {
        m.run(0, 2, 40);
        List<Long> now = state();
        int told = now.size() - 6;
        Due.is(what + " leaves the program", now.subList(0, told).equals(before.subList(0, told)) ? 1 : 0, 1);
    }

    private static void badCalls() {
        Due.sentence("Nothing changes then.");
        for (int call = 0; call < 22 + MAKES.length; call++) {
            prepare();
            List<Long> before = state();
            Due.is("call " + call, refused(call), BAD);
            dueUnchanged("call " + call, before);
            dueSameProgram("call " + call, before);
        }
    }

    private static void badCallsAheadOfAll() {
        Due.sentence("Calls answer BAD: a number is not as told");
        for (int call = 0; call < 22 + MAKES.length; call++) {
            fresh();
            List<Long> before = state();
            Due.is("call " + call + " on a new object", refused(call), BAD);
            dueUnchanged("call " + call + " on a new object", before);
        }
    }

    private static void full() {
        Due.sentence("FULL: there are 120. Nothing changes then.");
        prepare();
        for (int i = m.count(4); i < 120; i++) {
            put(6, i);
        }
        List<Long> before = state();
        for (int sort = 0; sort <= GOT; sort++) {
            Due.is("make of sort " + sort, st(sort, 0, 0, 0), FULL);
        }
        dueUnchanged("FULL", before);
        dueSameProgram("FULL", before);
        m.body(2, 119);
        m.run(2, 0, 160);
        Due.is("the last statement is the one that was", m.variable(6), 119);
    }

    /** Those that do not answer BAD: variable answers 0, item throws. */
    private static void variableAndItem() {
        Due.sentence("BAD: a number is not as told");
        prepare();
        List<Long> before = state();
        Due.is("variable(8)", m.variable(8), 0);
        Due.is("variable(-1)", m.variable(-1), 0);
        Due.is("item(4, 0)", Due.item(m, 4, 0), Due.INDEX_THROWN);
        Due.is("item(0, 0)", Due.item(m, 0, 0), Due.NULL_THROWN);
        Due.is("item(2, 3)", Due.item(m, 2, 3), Due.INDEX_THROWN);
        dueUnchanged("item and variable", before);
        dueSameProgram("item and variable", before);
    }

    /** All that tells changes nothing either. */
    private static void tellingChangesNothing() {
        Due.sentence("Nothing is promised beyond the answers and state changes described above");
        prepare();
        List<Long> before = state();
        dueUnchanged("telling", before);
        dueUnchanged("telling twice", before);
    }

    public static void main(String[] args) {
        badCalls();
        badCallsAheadOfAll();
        full();
        variableAndItem();
        tellingChangesNothing();
        Due.end();
    }
}
