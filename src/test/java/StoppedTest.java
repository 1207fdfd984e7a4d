/** What a stopped run still does, and by what. */
public final class StoppedTest extends Sorts {
    private static void allThatIsUnderWayEnds() {
        Due.sentence("STOPPED: all that is under way ends");
        fresh();
        m.body(1, chain(endless(1), put(2, 1)));
        int inner = chain(st(TRY, st(CALL, 1), ALL_KINDS, put(3, 1)), put(4, 1));
        int all = chain(st(LOOP, 0, guarded(1, 2, inner)), put(5, 1));
        Due.is("run", run(all, 1, 160), STOPPED);
        dueTold("run", STOPPED, 0, 0, 0, 160, 0, 2, 2, 0);
        for (int x = 2; x <= 7; x++) {
            Due.is("variable(" + x + ")", m.variable(x), 0);
        }
        dueMarks("run", 156, 2, 0, 0, 0);
    }

    private static void noHandlerTakesThat() {
        Due.sentence("where a budget does not do, the run is stopped: no handler takes that, locks are freed, "
            + "last parts are done by a reserve");
        fresh();
        int handled = st(TRY, st(GUARD, 0, st(LAST, endless(1), put(2, 1))), ALL_KINDS, put(3, 1));
        Due.is("run", run(st(TRY, handled, ALL_KINDS, put(3, 1)), 0, 100), STOPPED);
        Due.is("variable(2)", m.variable(2), 1);
        Due.is("variable(3)", m.variable(3), 0);
        Due.is("variable(7)", m.variable(7), 0);
        dueTold("run", STOPPED, 0, 0, 0, 100, 10, 1, 1, 0);
        dueMarks("run", 98, 1, 0, 1, 0);
    }

    private static void fromTheInmostOn() {
        Due.sentence("of each LAST, from the inmost one on");
        fresh();
        // Each last part doubles variable 2 and adds its own number, so that the order can be told.
        int twice = st(PLUS, 2, 2, 2);
        int inmost = st(LAST, endless(1), chain(twice, put(3, 1), st(PLUS, 2, 2, 3)));
        int middle = st(LAST, st(GUARD, 0, inmost), chain(twice, put(3, 10), st(PLUS, 2, 2, 3)));
        m.body(1, middle);
        int outmost = st(LAST, st(CALL, 1), chain(twice, put(3, 100), st(PLUS, 2, 2, 3)));
        Due.is("run", run(outmost, 0, 50), STOPPED);
        Due.is("variable(2)", m.variable(2), 2 * (2 * 1 + 10) + 100);
        dueBegan("run", inmost, middle, outmost);
        dueTold("run", STOPPED, 0, 0, 0, 50, 30);
    }

    private static void whoseTDidNotBegin() {
        Due.sentence("whose T did not begin");
        fresh();
        int inner = st(LAST, endless(1), add(2));
        int outer = st(LAST, put(3, 1), chain(add(4), inner));
        Due.is("stopped in the T of the outer one", run(outer, 0, 20), STOPPED);
        Due.is("variable(2)", m.variable(2), 1);
        Due.is("variable(4), once", m.variable(4), 1);
        dueBegan("run", outer, inner);
        dueTold("run", STOPPED, 0, 0, 0, 20, 10);
        int past = chain(st(LAST, put(3, 1), add(4)), endless(1));
        Due.is("stopped behind a LAST", run(past, 0, 20), STOPPED);
        Due.is("variable(4), once", m.variable(4), 1);
        dueTold("stopped behind a LAST", STOPPED, 0, 0, 0, 20, 0);
        int ahead = chain(endless(1), st(LAST, put(3, 1), add(4)));
        Due.is("stopped ahead of a LAST", run(ahead, 0, 20), STOPPED);
        Due.is("variable(4)", m.variable(4), 0);
        int thrown = st(TRY, st(LAST, st(RAISE, 0), add(4)), ALL_KINDS, endless(1));
        Due.is("stopped in a handler behind a LAST", run(thrown, 0, 30), STOPPED);
        Due.is("variable(4), once", m.variable(4), 1);
    }

    private static void alsoWhereItsFinalStopped() {
        Due.sentence("(also where its FINAL is what stopped the RUN)");
        fresh();
        int[] parts = {put(1, 1), st(RETURN, 0), st(RAISE, 0)};
        for (int s = END; s <= THREW; s++) {
            int last = st(LAST, parts[s], add(2));
            for (int budget = 2; budget <= 11; budget += 9) {
                String run = "an S that ends by " + s + " with " + budget;
                Due.is(run, run(st(TRY, last, ALL_KINDS, put(3, 1)), 5, budget), STOPPED);
                Due.is(run + ": variable(2)", m.variable(2), 1);
                Due.is(run + ": variable(3)", m.variable(3), 0);
                dueTold(run, STOPPED, 0, 0, s == RETURNED ? 5 : 0, 2, 10);
                dueBegan(run, last);
            }
            run(last, 5, 12);
            dueTold("with 12", s, s == THREW ? OWN : 0, s == THREW ? 5 : 0, s == RETURNED ? 5 : 0, 12, 0);
            Due.is("with 12: variable(2), once", m.variable(2), 1);
        }
        int inner = st(LAST, parts[0], add(2));
        int outer = st(LAST, inner, add(3));
        Due.is("the outer one, too", run(outer, 5, 11), STOPPED);
        dueBegan("the outer one, too", inner, outer);
        Due.is("only the outer one", run(outer, 5, 21), STOPPED);
        dueTold("only the outer one", STOPPED, 0, 0, 0, 12, 10);
        dueBegan("only the outer one", inner, outer);
    }

    private static void inItsGuards() {
        Due.sentence("T is done, in its GUARDS as they are then");
        fresh();
        int inside = guarded(0, 5, endless(1));
        m.body(1, inside);
        int last = st(LAST, st(CALL, 1), guarded(0, 4, put(2, 1)));
        Due.is("run", run(guarded(0, 3, last), 0, 20), STOPPED);
        Due.is("told(7): 3 and 5, the inner ones are free in T", m.told(7), 8);
        Due.is("told(8)", m.told(8), 0);
        Due.is("variable(2)", m.variable(2), 1);
        int more = st(LAST, st(CALL, 1), guarded(0, 6, put(2, 1)));
        run(guarded(0, 3, more), 0, 20);
        Due.is("told(7): 3 and 6, the outer ones are held in T", m.told(7), 9);
        Due.is("told(8)", m.told(8), 0);
    }

    /** Methods end with all that is under way: those inside the LAST are none in its T, those outside it are. */
    private static void inItsMethods() {
        Due.sentence("all that is under way ends; of each LAST, from the inmost one on, whose T did not begin");
        fresh();
        m.body(1, endless(1));
        m.body(2, put(2, 1));
        int last = st(LAST, st(CALL, 1), st(CALL, 2));
        m.body(3, last);
        int down = chain(put(1, 1), st(LESS, 0, 0, 1), st(CALL, 0));
        m.body(0, st(IF, 0, down, st(CALL, 3)));
        Due.is("a T in the 7th method", m.run(0, 5, 30), STOPPED);
        Due.is("variable(2), by the 8th", m.variable(2), 1);
        dueTold("a T in the 7th method", STOPPED, 0, 0, 0, 30, 12, 8);
        m.body(1, NONE);
        m.body(3, st(LAST, st(LOOP, 3, put(2, 2)), st(CALL, 2)));
        Due.is("a T in the 8th method", m.run(0, 6, 16), STOPPED);
        dueTold("a T in the 8th method throws DEEP", STOPPED, 0, 0, 0, 16, 10, 8);
        Due.is("variable(2)", m.variable(2), 0);
    }

    private static void theReserveIs40() {
        Due.sentence("by RESERVE in place of BUDGET, 40 for the whole RUN");
        fresh();
        int[] lasts = new int[5];
        int all = endless(0);
        for (int i = 0; i < 5; i++) {
            all = st(LAST, all, add(i + 1));
            lasts[i] = all;
        }
        Due.is("five last parts", run(all, 1, 50), STOPPED);
        dueTold("five last parts", STOPPED, 0, 0, 0, 50, 40);
        for (int i = 0; i < 5; i++) {
            Due.is("variable(" + (i + 1) + ")", m.variable(i + 1), i < 4 ? 1 : 0);
        }
        dueBegan("five last parts", lasts[0], lasts[1], lasts[2], lasts[3]);
        Due.is("in the next run, too", run(all, 1, 50), STOPPED);
        dueTold("in the next run, too", STOPPED, 0, 0, 0, 50, 40);
        Due.is("it is no more where it does not do at once", run(all, 1, 2), STOPPED);
        dueTold("with a budget of 2", STOPPED, 0, 0, 0, 2, 40);
    }

    private static void theReserveByOne() {
        Due.sentence("40 for the whole RUN");
        fresh();
        int down = chain(put(3, -1), st(PLUS, 2, 2, 3));
        int times30 = st(LAST, endless(1), chain(put(2, 30), st(LOOP, 2, down), put(4, 1)));
        Due.is("10 and 30", run(times30, 0, 5), STOPPED);
        Due.is("told(5)", m.told(5), 40);
        Due.is("variable(4), 40 do", m.variable(4), 1);
        int times31 = st(LAST, endless(1), chain(put(2, 31), st(LOOP, 2, down), put(4, 1)));
        Due.is("10 and 31", run(times31, 0, 5), STOPPED);
        Due.is("told(5)", m.told(5), 40);
        Due.is("variable(4), 41 do not", m.variable(4), 0);
        Due.is("variable(2)", m.variable(2), 0);
    }

    private static void finalFirst() {
        Due.sentence("FINAL first");
        fresh();
        int down = chain(put(3, -1), st(PLUS, 2, 2, 3));
        int times21 = chain(put(2, 21), st(LOOP, 2, down));
        int times20 = chain(put(2, 20), st(LOOP, 2, down));
        int inner = st(LAST, endless(1), times21);
        Due.is("9 left for the outer one", run(st(LAST, inner, add(4)), 0, 5), STOPPED);
        dueTold("9 left for the outer one", STOPPED, 0, 0, 0, 5, 31);
        Due.is("variable(4)", m.variable(4), 0);
        dueBegan("9 left for the outer one", inner);
        Due.is("marks(FINAL)", m.marks(FINAL), 1);
        inner = st(LAST, endless(1), times20);
        int outer = st(LAST, inner, add(4));
        Due.is("10 left for the outer one", run(outer, 0, 5), STOPPED);
        dueTold("10 left for the outer one", STOPPED, 0, 0, 0, 5, 40);
        Due.is("variable(4)", m.variable(4), 1);
        dueBegan("10 left for the outer one", inner, outer);
        Due.is("marks(FINAL)", m.marks(FINAL), 2);
    }

    private static void everyMarkIsTheReserves() {
        Due.sentence("by RESERVE in place of BUDGET");
        fresh();
        m.body(1, chain(put(1, 5), st(MAKE, 2, 1)));
        int handled = st(TRY, st(RAISE, 0), ALL_KINDS, st(CALL, 1));
        int once = chain(put(2, 1), st(LOOP, 2, put(2, 0)));
        int inner = st(LAST, once, handled);
        int outer = st(LAST, endless(1), inner);
        // 10 for the outer FINAL, 1 back, 10 for the inner FINAL, 10 for the handler, 2 for the entry, 2 for the row.
        Due.is("run", run(outer, 3, 7), STOPPED);
        dueTold("run", STOPPED, 0, 0, 0, 7, 35);
        dueMarks("run", 6, 2, 1, 2, 1);
        dueBegan("run", outer, inner, handled);
        Due.is("size(2)", m.size(2), 5);
        Due.is("variable(7)", m.variable(7), 103);
    }

    /** Stops that leave nothing of a budget of 60, or 58, by which a handler or a last part outside could be paid. */
    private static int[] stops() {
        return new int[] {endless(1), chain(put(1, 500), st(MAKE, 0, 1))};
    }

    private static final int[] SPENT = {60, 2};

    private static void howeverSuchATEnds() {
        Due.sentence("However such a T ends, by RETURN, by THROWS, or because RESERVE does not do");
        for (int t = END; t <= STOPPED; t++) {
            fresh();
            int[] parts = {put(2, 1), st(RETURN, 0), st(RAISE, 0), endless(2)};
            int[] stops = stops();
            for (int i = 0; i < stops.length; i++) {
                String run = "a T that ends by " + t + " behind stop " + i;
                int last = st(LAST, stops[i], parts[t]);
                Due.is(run, run(last, 6, 60), STOPPED);
                dueTold(run, STOPPED, 0, 0, t == RETURNED ? 6 : 0, SPENT[i], t == STOPPED ? 40 : 10);
                dueBegan(run, last);
                int handled = chain(st(TRY, last, ALL_KINDS, put(3, 1)), put(3, 1));
                Due.is(run + " in a TRY", run(chain(handled, put(4, 1)), 6, 60), STOPPED);
                Due.is(run + ": variable(3)", m.variable(3), 0);
                Due.is(run + ": variable(4)", m.variable(4), 0);
                Due.is(run + ": variable(7)", m.variable(7), 0);
                Due.is(run + ": marks(HANDLER)", m.marks(HANDLER), 0);
            }
        }
    }

    private static void stoppedGoesOnOutside() {
        Due.sentence("STOPPED goes on outside.");
        for (int t = END; t <= THREW; t++) {
            fresh();
            int[] parts = {put(2, 1), st(RETURN, 0), st(RAISE, 0)};
            for (int stop : stops()) {
                String run = "a T that ends by " + t + " behind statement " + stop;
                int inner = st(LAST, stop, parts[t]);
                m.body(1, inner);
                int outer = st(LAST, chain(st(CALL, 1), put(3, 1)), add(4));
                Due.is(run, run(chain(outer, put(3, 1)), 6, 60), STOPPED);
                Due.is(run + ": variable(3)", m.variable(3), 0);
                Due.is(run + ": variable(4), the outer last part", m.variable(4), 1);
                dueBegan(run, inner, outer);
                Due.is(run + ": told(5)", m.told(5), 20);
                Due.is(run + ": told(3)", m.told(3), t == RETURNED ? 6 : 0);
            }
        }
    }

    /** Each kind of mark stops the run as the others do. */
    private static void byAnyMark() {
        Due.sentence("the RUN is STOPPED there.");
        fresh();
        m.body(1, put(2, 1));
        int raise = st(RAISE, 0);
        int[][] dear = {
            {st(LOOP, 0, put(2, 1)), 2}, {st(CALL, 1), 3}, {st(TRY, raise, ALL_KINDS, put(2, 1)), 11},
            {st(LAST, raise, put(2, 1)), 11}, {st(MAKE, 0, 0), 2},
        };
        for (int kind = BACK; kind <= MAKING; kind++) {
            String run = "stopped by mark " + kind;
            int last = st(LAST, guarded(1, 1, dear[kind][0]), chain(put(3, 1), st(GUARD, 1, put(4, 1))));
            Due.is(run, run(st(TRY, last, ALL_KINDS, put(5, 1)), 1, dear[kind][1]), STOPPED);
            dueTold(run, STOPPED, 0, 0, 0, 2, kind == FINAL ? 20 : 10, 1, 1, 0);
            Due.is(run + ": variable(3)", m.variable(3), 1);
            Due.is(run + ": variable(5)", m.variable(5), 0);
        }
    }

    private static void noLastInItAnyMore() {
        Due.sentence("(then at once, no LAST in it does its T any more)");
        fresh();
        int inT = st(LAST, guarded(3, 2, endless(1)), add(2));
        int first = st(LAST, endless(1), inT);
        Due.is("stopped in the S of a LAST in T", run(first, 0, 9), STOPPED);
        dueTold("told", STOPPED, 0, 0, 0, 9, 40, 1, 2, 0);
        Due.is("variable(2)", m.variable(2), 0);
        dueBegan("told", first);

        // The FINAL of the LAST in T is what the reserve does not do for: 10 and 21 leave 9.
        fresh();
        int down = chain(put(3, -1), st(PLUS, 2, 2, 3));
        inT = st(LAST, chain(put(2, 21), st(LOOP, 2, down)), add(4));
        first = st(LAST, endless(1), inT);
        Due.is("stopped by the FINAL of a LAST in T", run(first, 0, 9), STOPPED);
        dueTold("told", STOPPED, 0, 0, 0, 9, 31);
        Due.is("variable(4)", m.variable(4), 0);
        dueBegan("told", first);

        // A making too dear for the reserve leaves it as it was: what is outside may still be done by it.
        fresh();
        int dear = chain(put(5, 120), st(MAKE, 0, 5));
        inT = st(LAST, dear, add(2));
        first = st(LAST, endless(1), inT);
        int second = st(LAST, first, add(3));
        Due.is("a row too dear", run(second, 0, 9), STOPPED);
        dueTold("a row too dear", STOPPED, 0, 0, 0, 9, 20);
        Due.is("variable(2), no LAST in it", m.variable(2), 0);
        Due.is("variable(3), the LAST outside", m.variable(3), 1);
        Due.is("size(0)", m.size(0), NONE);
        dueBegan("a row too dear", first, second);
    }

    /** A LAST in a T by the reserve whose S throws does its T as in any run. */
    private static void lastsInItBeforeThat() {
        Due.sentence("by RESERVE in place of BUDGET, 40 for the whole RUN: FINAL first.");
        fresh();
        int inT = st(LAST, st(RAISE, 0), add(2));
        int first = st(LAST, endless(1), st(TRY, inT, ALL_KINDS, add(3)));
        Due.is("run", run(first, 0, 9), STOPPED);
        dueTold("run", STOPPED, 0, 0, 0, 9, 30);
        Due.is("variable(2)", m.variable(2), 1);
        Due.is("variable(3)", m.variable(3), 1);
        dueMarks("run", 7, 1, 1, 2, 0);
    }

    /** Statements double at each height, and a loop of them goes on to the end of the budget. */
    private static void theLongestRun() {
        Due.sentence("Programs of statements that are counted as they run");
        fresh();
        int plus = st(PLUS, 1, 1, 0);
        for (int height = 2; height <= 15; height++) {
            plus = st(BOTH, plus, plus);
        }
        Due.is("run", run(st(LOOP, 0, plus), 1, 160), STOPPED);
        Due.is("variable(1)", m.variable(1), 159 * 16384);
    }

    public static void main(String[] args) {
        allThatIsUnderWayEnds();
        noHandlerTakesThat();
        fromTheInmostOn();
        whoseTDidNotBegin();
        alsoWhereItsFinalStopped();
        inItsGuards();
        inItsMethods();
        theReserveIs40();
        theReserveByOne();
        finalFirst();
        everyMarkIsTheReserves();
        howeverSuchATEnds();
        stoppedGoesOnOutside();
        byAnyMark();
        noLastInItAnyMore();
        lastsInItBeforeThat();
        theLongestRun();
        Due.end();
    }
}
