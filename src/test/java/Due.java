/** Compares answers with those that are due, and ends a test with exit code 1 if one was not. */
final class Due {
    private static int asked = 0;
    private static int wrong = 0;

    private Due() { }

    static void is(String what, long got, long want) {
        asked++;
        if (got != want) {
            wrong++;
            if (wrong <= 50) {
                System.out.println(what + " answered " + got + ", due is " + want);
            }
        }
    }

    /** What item answers, with its exceptions as numbers that no test stores in a row. */
    static final long NULL_THROWN = 1L << 40, INDEX_THROWN = 1L << 41;

    static long item(MarkedRuns m, int row, int i) {
        try {
            return m.item(row, i);
        } catch (NullPointerException e) {
            return NULL_THROWN;
        } catch (ArrayIndexOutOfBoundsException e) {
            return INDEX_THROWN;
        }
    }

    static void end() {
        System.out.println(asked + " answers, " + wrong + " of them wrong");
        if (wrong != 0 || asked == 0) {
            System.exit(1);
        }
    }
}
