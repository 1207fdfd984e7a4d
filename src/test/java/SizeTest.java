/** Promise 10: the sizes of rows behind the latest run. */
public final class SizeTest extends Sorts {
    private static void sizes() {
        Due.sentence("How many items a ROW has behind the latest RUN");
        for (int row = 0; row <= 3; row++) {
            fresh();
            for (int length : new int[] {0, 1, 5, 631}) {
                run(st(MAKE, row, 0), length, 160);
                Due.is("size(" + row + ")", m.size(row), length);
            }
            m.run(0, 3, 161);
            Due.is("size(" + row + ") behind a refused run", m.size(row), 631);
            m.same(0, 4, 160, 160);
            Due.is("size(" + row + ") behind same", m.size(row), 4);
        }
    }

    private static void ofNull() {
        Due.sentence("NONE: NULL.");
        fresh();
        for (int row = 0; row <= 3; row++) {
            Due.is("size(" + row + ") ahead of a run", m.size(row), NONE);
        }
        run(chain(st(MAKE, 1, 0), st(MAKE, 2, 0), st(NULLED, 2)), 0, 160);
        Due.is("size(0)", m.size(0), NONE);
        Due.is("size(1), of a row without items", m.size(1), 0);
        Due.is("size(2)", m.size(2), NONE);
        run(st(MAKE, 1, 0), 0, 2);
        Due.is("size(1), stopped ahead of it", m.size(1), NONE);
        run(st(MAKE, 1, 0), -1, 160);
        Due.is("size(1), below 0", m.size(1), NONE);
    }

    private static void bad() {
        Due.sentence("NONE: NULL. BAD.");
        fresh();
        for (int time = 0; time < 2; time++) {
            for (int wrong : new int[] {-1, -2, 4, 5, MIN, MAX}) {
                Due.is("size(" + wrong + ")", m.size(wrong), BAD);
            }
            run(st(MAKE, 3, 0), 3, 160);
        }
        Due.is("size(3)", m.size(3), 3);
    }

    public static void main(String[] args) {
        sizes();
        ofNull();
        bad();
        Due.end();
    }
}
