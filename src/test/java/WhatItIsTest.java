/** "What it is": what has prices, what throws, how many statements, their numbers and heights, how many calls. */
public final class WhatItIsTest extends Sorts {
    /** Which operands of a sort with parts are statements. */
    private static final int[][] PARTS = {
        {BOTH, 0}, {BOTH, 1}, {IF, 1}, {IF, 2}, {LOOP, 1}, {TRY, 0}, {TRY, 2}, {LAST, 0}, {LAST, 1}, {GUARD, 1},
    };

    private static int withPart(int[] place, int part) {
        int[] operands = {0, 0, 0};
        operands[place[1]] = part;
        return m.make(place[0], operands[0], operands[1], operands[2]);
    }

    private static void whatHasAPrice() {
        Due.sentence("loops, calls, handlers, last parts, makings have prices");
        fresh();
        m.body(1, put(1, 1));
        int twice = chain(put(2, 2), put(3, 1), st(LOOP, 2, st(LESS, 2, 2, 3)));
        int handled = st(TRY, st(RAISE, 0), 1 << OWN, put(4, 1));
        int[] statements = {twice, st(CALL, 1), handled, st(LAST, put(4, 1), put(4, 1)), st(MAKE, 0, 0)};
        int[] prices = {2, 2, 10, 10, 3};
        for (int kind = BACK; kind <= MAKING; kind++) {
            Due.is("a run with marks of kind " + kind, run(statements[kind], 9, 160), END);
            Due.is("kind " + kind + ": told(4), with the ENTRY of the RUN", m.told(4), 2 + prices[kind]);
        }
        int free = chain(put(1, 5), st(IF, 1, st(GUARD, 0, st(PLUS, 2, 1, 1)), put(2, 0)));
        Due.is("a run of all else", run(chain(free, st(SHARED, 1, 2), st(NULLED, 1), st(GOT, 3)), 0, 2), END);
        Due.is("all else: told(4)", m.told(4), 2);
    }

    private static void whatThrowsElse() {
        Due.sentence("what throws else is the machine's own, or one of the program's.");
        for (int kind = NULL; kind <= DEEP; kind++) {
            fresh();
            Due.is("a run that throws kind " + kind, run(thrower(kind)), THREW);
            Due.is("kind " + kind + ": told(1)", m.told(1), kind);
        }
        fresh();
        Due.is("a run that throws one of the program's", run(st(RAISE, 0), 77, 160), THREW);
        Due.is("told(2), its number", m.told(2), 77);
    }

    private static void statementsAreAtMost120() {
        Due.sentence("STATEMENTS, 120 at most");
        fresh();
        for (int i = 0; i < 119; i++) {
            put(0, i);
        }
        Due.is("make of the 120th", put(0, 0), 119);
        Due.is("make of the 121st", put(0, 0), FULL);
        Due.is("count(4)", m.count(4), 120);
        m.drop();
        Due.is("make of the 120th, behind drop()", put(0, 0), 119);
        Due.is("make of the 121st", put(0, 0), FULL);
    }

    private static void numbersAreFrom0() {
        Due.sentence("are numbered from 0 as they are made");
        fresh();
        Due.is("the first", put(0, 0), 0);
        Due.is("the second", st(RETURN, 0), 1);
        Due.is("a refused one", st(RETURN, 8), BAD);
        Due.is("the third", st(BOTH, 0, 1), 2);
        m.drop();
        Due.is("the third again", st(RAISE, 0), 2);
    }

    private static void partsHaveLesserNumbers() {
        Due.sentence("of STATEMENTS with lesser numbers (S, T)");
        for (int[] place : PARTS) {
            fresh();
            String sort = "sort " + place[0] + ", operand " + place[1] + ", ";
            Due.is(sort + "without any", withPart(place, 0), BAD);
            put(0, 0);
            put(0, 0);
            put(0, 0);
            Due.is(sort + "of its own number", withPart(place, 3), BAD);
            Due.is(sort + "of a greater number", withPart(place, 4), BAD);
            Due.is(sort + "of the number ahead", withPart(place, 2), 3);
            Due.is(sort + "of number 0", withPart(place, 0), 4);
            Due.is(sort + "of number -1", withPart(place, -1), BAD);
        }
    }

    private static void heightIsAtMost16() {
        Due.sentence("1, and the greatest of S and T (16 at most)");
        for (int[] place : PARTS) {
            fresh();
            put(0, 0);
            for (int height = 2; height <= 15; height++) {
                st(GUARD, 0, height - 2);
            }
            String sort = "sort " + place[0] + ", operand " + place[1] + ", ";
            Due.is(sort + "of height 16", withPart(place, 14), 15);
            Due.is(sort + "of height 17", withPart(place, 15), BAD);
            Due.is(sort + "of height 16 once more", withPart(place, 14), 16);
        }
    }

    private static void heightCountsFromEverySort() {
        Due.sentence("1, and the greatest of S and T");
        for (int[] place : PARTS) {
            fresh();
            put(0, 0);
            int top = 0;
            for (int height = 2; height <= 16; height++) {
                top = withPart(place, top);
                Due.is("sort " + place[0] + ", operand " + place[1] + ", of height " + height, top, height - 1);
            }
            Due.is("sort " + place[0] + ", operand " + place[1] + ", of height 17", withPart(place, top), BAD);
        }
        for (int sort = PUT; sort <= GOT; sort++) {
            if (sort < BOTH || sort > LOOP && sort < TRY || sort == GOT) {
                fresh();
                dueTower("sort " + sort, st(sort, 0, 0, 0), 1);
            }
        }
        fresh();
        int high = guarded(0, 14, put(0, 0));
        m.body(0, high);
        dueTower("a CALL of a high BODY", st(CALL, 0), 1);
        fresh();
        int low = put(0, 0);
        dueTower("S and T of heights 7 and 7", st(BOTH, guarded(0, 6, low), guarded(0, 6, low)), 8);
        fresh();
        low = put(0, 0);
        dueTower("S and T of heights 3 and 5", st(LAST, guarded(0, 2, low), guarded(0, 4, low)), 6);
        fresh();
        low = put(0, 0);
        dueTower("S and T of heights 5 and 3", st(TRY, guarded(0, 4, low), 0, guarded(0, 2, low)), 6);
    }

    /** The statement has that height, since so many guards can be made over it and no more. */
    private static void dueTower(String what, int statement, int height) {
        int top = guarded(0, 16 - height, statement);
        Due.is(what + ": height 16 can be made", top >= 0 ? 1 : 0, 1);
        Due.is(what + ": height 17 can't", st(GUARD, 0, top), BAD);
    }

    private static void theLastOf512Calls() {
        Due.sentence("An object is used for at most 512 calls after it has been made");
        fresh();
        put(1, 5);
        m.body(0, 0);
        for (int call = 3; call < 512; call++) {
            m.run(0, 0, 160);
        }
        Due.is("count(0) as the 512th call", m.count(0), 509);
        fresh();
        put(1, 5);
        m.body(0, 0);
        for (int call = 3; call < 512; call++) {
            m.same(0, 0, 160, 0);
        }
        Due.is("count(3) as the 512th call", m.count(3), 509);
        fresh();
        m.body(0, endless(1));
        for (int call = 6; call < 511; call++) {
            m.run(0, 0, 160);
        }
        Due.is("run as the 511th call", m.run(0, 3, 150), STOPPED);
        Due.is("told(4) as the 512th call", m.told(4), 150);
    }

    /** Later answers are free, but LANGUAGE.md lets no call throw by itself in any state. */
    private static void laterCallsEnd() {
        Due.sentence("what later calls answer is free");
        fresh();
        for (int call = 0; call < 3000; call++) {
            put(1, 5);
            m.body(call % 8, 0);
            m.same(0, 0, 160, 20);
            m.told(call % 9);
            m.drop();
        }
        Due.is("3000 times five calls end", 1, 1);
    }

    public static void main(String[] args) {
        whatHasAPrice();
        whatThrowsElse();
        statementsAreAtMost120();
        numbersAreFrom0();
        partsHaveLesserNumbers();
        heightIsAtMost16();
        heightCountsFromEverySort();
        theLastOf512Calls();
        laterCallsEnd();
        Due.end();
    }
}
