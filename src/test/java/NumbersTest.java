/** Terms: variables and what is calculated with them. */
public final class NumbersTest extends Sorts {
    private static final int UNTOUCHED = 77;

    /** Variable 3 behind y and z were put and variable 3 is the sort of both. */
    private static int calculated(int sort, int y, int z) {
        fresh();
        int answer = run(chain(put(1, y), put(2, z), put(3, UNTOUCHED), st(sort, 3, 1, 2)), 0, 2);
        Due.is("run of sort " + sort + " of " + y + " and " + z, answer, END);
        return m.variable(3);
    }

    private static void goingRound() {
        Due.sentence("32 bits, going round");
        Due.is("the greatest + 1", calculated(PLUS, MAX, 1), MIN);
        Due.is("the least + -1", calculated(PLUS, MIN, -1), MAX);
        Due.is("the least twice", calculated(PLUS, MIN, MIN), 0);
        Due.is("the least - 1", calculated(LESS, MIN, 1), MAX);
        Due.is("the greatest - -1", calculated(LESS, MAX, -1), MIN);
        Due.is("0 - the least", calculated(LESS, 0, MIN), MIN);
        Due.is("65536 * 65536", calculated(TIMES, 65536, 65536), 0);
        Due.is("the greatest * 2", calculated(TIMES, MAX, 2), -2);
        Due.is("the least * -1", calculated(TIMES, MIN, -1), MIN);
        Due.is("the least by -1", calculated(BY, MIN, -1), MIN);
        Due.is("the rest of that", calculated(REST, MIN, -1), 0);
        Due.is("the edge is not crossed", calculated(PLUS, MAX - 1, 1), MAX);
    }

    private static void variablesAre0AtFirst() {
        Due.sentence("VARIABLES 0 .. 7 (x, y, z; 32 bits, going round; 0 at first)");
        fresh();
        int[] puts = new int[8];
        for (int x = 0; x <= 7; x++) {
            puts[x] = put(x, 100 + x);
        }
        run(chain(puts));
        for (int x = 0; x <= 7; x++) {
            Due.is("variable(" + x + ")", m.variable(x), 100 + x);
        }
        run(st(NULLED, 0), 9, 160);
        for (int x = 1; x <= 7; x++) {
            Due.is("variable(" + x + ") of the next run", m.variable(x), 0);
        }
        run(st(NULLED, 0), 9, 0);
        for (int x = 1; x <= 7; x++) {
            Due.is("variable(" + x + ") of a run stopped at once", m.variable(x), 0);
        }
    }

    private static void puts() {
        Due.sentence("0 PUT x n: x is n.");
        for (int n : new int[] {0, 1, -1, -2, 8, 120, MIN, MAX}) {
            for (int x = 0; x <= 7; x += 7) {
                fresh();
                Due.is("run", run(put(x, n), UNTOUCHED, 2), END);
                Due.is("variable(" + x + ") is " + n, m.variable(x), n);
            }
        }
    }

    private static void plus() {
        Due.sentence("1 PLUS x y z: y + z");
        Due.is("3 + 4", calculated(PLUS, 3, 4), 7);
        Due.is("3 + -4", calculated(PLUS, 3, -4), -1);
        Due.is("0 + 0", calculated(PLUS, 0, 0), 0);
        fresh();
        run(st(PLUS, 0, 0, 0), 21, 160);
        Due.is("all three the same", m.variable(0), 42);
    }

    private static void less() {
        Due.sentence("2 LESS: y - z");
        Due.is("3 - 4", calculated(LESS, 3, 4), -1);
        Due.is("-3 - -4", calculated(LESS, -3, -4), 1);
        fresh();
        run(st(LESS, 0, 0, 0), 21, 160);
        Due.is("all three the same", m.variable(0), 0);
    }

    private static void times() {
        Due.sentence("3 TIMES: y * z");
        Due.is("-3 * 4", calculated(TIMES, -3, 4), -12);
        Due.is("-3 * -4", calculated(TIMES, -3, -4), 12);
        Due.is("5 * 0", calculated(TIMES, 5, 0), 0);
    }

    private static void by() {
        Due.sentence("4 BY: y by z, towards 0");
        Due.is("7 by 2", calculated(BY, 7, 2), 3);
        Due.is("-7 by 2", calculated(BY, -7, 2), -3);
        Due.is("7 by -2", calculated(BY, 7, -2), -3);
        Due.is("-7 by -2", calculated(BY, -7, -2), 3);
        Due.is("-1 by 2", calculated(BY, -1, 2), 0);
        Due.is("0 by 5", calculated(BY, 0, 5), 0);
        Due.is("the least by 1", calculated(BY, MIN, 1), MIN);
    }

    private static void rest() {
        Due.sentence("5 REST: of that, with y's sign");
        Due.is("7 by 2", calculated(REST, 7, 2), 1);
        Due.is("-7 by 2", calculated(REST, -7, 2), -1);
        Due.is("7 by -2", calculated(REST, 7, -2), 1);
        Due.is("-7 by -2", calculated(REST, -7, -2), -1);
        Due.is("6 by 3", calculated(REST, 6, 3), 0);
        Due.is("the least by the greatest", calculated(REST, MIN, MAX), -1);
    }

    private static void byZero() {
        Due.sentence("(4, 5: ZERO)");
        for (int sort : new int[] {BY, REST}) {
            for (int y : new int[] {5, 0, MIN}) {
                fresh();
                int zero = chain(put(1, y), put(3, UNTOUCHED), st(sort, 3, 1, 2), put(4, 1));
                Due.is("sort " + sort + " of " + y + " by 0", thrown(zero, 0), ZERO);
                Due.is("variable(3) is left", m.variable(3), UNTOUCHED);
                Due.is("variable(4) is left", m.variable(4), 0);
            }
        }
    }

    public static void main(String[] args) {
        goingRound();
        variablesAre0AtFirst();
        puts();
        plus();
        less();
        times();
        by();
        rest();
        byZero();
        Due.end();
    }
}
