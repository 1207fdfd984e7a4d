/** Promise 9: the variables behind the latest run. */
public final class VariableTest extends Sorts {
    private static void behindTheLatestRun() {
        Due.sentence("A VARIABLE behind the latest RUN (any number");
        fresh();
        int[] puts = new int[8];
        int[] numbers = {MIN, MAX, -1, BAD, FULL, 0, 120, -100};
        for (int x = 0; x <= 7; x++) {
            puts[x] = put(x, numbers[x]);
        }
        run(chain(puts));
        for (int x = 0; x <= 7; x++) {
            Due.is("variable(" + x + ")", m.variable(x), numbers[x]);
        }
        m.run(0, 3, 161);
        Due.is("variable(0) behind a refused run", m.variable(0), MIN);
        m.body(1, puts[1]);
        m.same(1, 5, 160, 0);
        Due.is("variable(0), the second run of same", m.variable(0), 5);
        Due.is("variable(1), the second run of same", m.variable(1), 0);
    }

    private static void aheadOfARun() {
        Due.sentence("0 ahead of one");
        fresh();
        m.body(0, put(1, 4));
        for (int x = 0; x <= 7; x++) {
            Due.is("variable(" + x + ")", m.variable(x), 0);
        }
    }

    private static void bad() {
        Due.sentence("0 ahead of one, and of BAD");
        fresh();
        for (int time = 0; time < 2; time++) {
            for (int wrong : new int[] {-1, -2, 8, 9, MIN, MAX}) {
                Due.is("variable(" + wrong + ")", m.variable(wrong), 0);
            }
            run(chain(put(0, 4), put(7, 5)), 3, 160);
        }
    }

    /** Of a run that threw or was stopped, as of any other. */
    private static void howeverItEnded() {
        Due.sentence("A VARIABLE behind the latest RUN");
        fresh();
        int one = put(1, 4);
        for (int part : new int[] {put(2, 5), st(RETURN, 0), st(RAISE, 0), endless(2)}) {
            run(chain(one, part, put(1, 6)), 3, 100);
            Due.is("variable(1)", m.variable(1), m.told(0) == END ? 6 : 4);
            Due.is("variable(0)", m.variable(0), 3);
        }
    }

    public static void main(String[] args) {
        behindTheLatestRun();
        aheadOfARun();
        bad();
        howeverItEnded();
        Due.end();
    }
}
