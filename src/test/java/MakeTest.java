/** Promise 2: numbers of statements, what each sort takes, heights, and the most that there can be. */
public final class MakeTest {
    private static final int ANY = Integer.MIN_VALUE;

    /** The ends of the range of each operand, ANY where it does not count; S and T are 0 .. 1 here. */
    private static final int[][] HIGHEST = {
        {7, ANY, ANY}, {7, 7, 7}, {7, 7, 7}, {7, 7, 7}, {7, 7, 7}, {7, 7, 7},
        {3, 7, ANY}, {7, 3, 7}, {3, 7, 7}, {7, 3, ANY}, {3, ANY, ANY}, {3, 3, ANY},
        {1, 1, ANY}, {7, 1, 1}, {7, 1, ANY}, {7, ANY, ANY}, {7, ANY, ANY}, {7, ANY, ANY},
        {1, 127, 1}, {1, 1, ANY}, {3, 1, ANY}, {7, ANY, ANY},
    };

    private static MarkedRuns withTwo() {
        MarkedRuns m = new MarkedRuns();
        Sorts.put(m, 0, 1);
        Sorts.put(m, 0, 2);
        return m;
    }

    private static void tryOne(int sort, int[] operands, int want) {
        MarkedRuns m = withTwo();
        String call = "make(" + sort + ", " + operands[0] + ", " + operands[1] + ", " + operands[2] + ")";
        Due.is(call, m.make(sort, operands[0], operands[1], operands[2]), want);
        Due.is("count(4) behind " + call, m.count(4), want == MarkedRuns.BAD ? 2 : 3);
    }

    private static void ranges() {
        for (int sort = 0; sort < HIGHEST.length; sort++) {
            tryOne(sort, new int[] {0, 0, 0}, 2);
            for (int at = 0; at < 3; at++) {
                int high = HIGHEST[sort][at];
                int wrongOnes = high == ANY ? 2 : MarkedRuns.BAD;
                int[][] beyond = {{0, 0, 0}, {0, 0, 0}, {0, 0, 0}, {0, 0, 0}};
                beyond[0][at] = -1;
                beyond[1][at] = high == ANY ? 1000 : high + 1;
                beyond[2][at] = Integer.MIN_VALUE;
                beyond[3][at] = Integer.MAX_VALUE;
                for (int[] operands : beyond) {
                    tryOne(sort, operands, wrongOnes);
                }
                int[] edge = {0, 0, 0};
                edge[at] = high == ANY ? 5 : high;
                tryOne(sort, edge, 2);
            }
        }
        for (int sort : new int[] {-1, 22, Integer.MIN_VALUE, Integer.MAX_VALUE}) {
            tryOne(sort, new int[] {0, 0, 0}, MarkedRuns.BAD);
        }
    }

    private static void heights() {
        int[] withParts = {Sorts.BOTH, Sorts.IF, Sorts.LOOP, Sorts.TRY, Sorts.LAST, Sorts.GUARD};
        for (int sort : withParts) {
            for (int deepAt = 0; deepAt < 3; deepAt++) {
                tower(sort, deepAt);
            }
        }
        MarkedRuns m = new MarkedRuns();
        int top = Sorts.put(m, 0, 0);
        for (int height = 2; height <= 16; height++) {
            top = m.make(Sorts.GUARD, 0, top, 0);
        }
        Due.is("CALL is of height 1", m.make(Sorts.BOTH, m.make(Sorts.CALL, 0, 0, 0), 0, 0), 17);
        Due.is("a part of height 16", m.make(Sorts.LOOP, 0, top, 0), MarkedRuns.BAD);
        Due.is("a part of height 15", m.make(Sorts.LOOP, 0, top - 1, 0), 18);
    }

    /** A statement over one of height 15, then over one of height 16, in each operand that is a statement. */
    private static void tower(int sort, int deepAt) {
        int[] high = HIGHEST[sort];
        if (high[deepAt] != 1) {
            return;
        }
        MarkedRuns m = new MarkedRuns();
        Sorts.put(m, 0, 0);
        for (int height = 2; height <= 16; height++) {
            m.make(Sorts.GUARD, 0, height - 2, 0);
        }
        int[] operands = {0, 0, 0};
        operands[deepAt] = 15;
        Due.is("sort " + sort + " at height 17", m.make(sort, operands[0], operands[1], operands[2]), MarkedRuns.BAD);
        operands[deepAt] = 14;
        Due.is("sort " + sort + " at height 16", m.make(sort, operands[0], operands[1], operands[2]), 16);
    }

    private static void fullness() {
        MarkedRuns m = new MarkedRuns();
        for (int i = 0; i < 120; i++) {
            Due.is("statement " + i, Sorts.put(m, 0, i), i);
        }
        Due.is("one more", Sorts.put(m, 0, 0), MarkedRuns.FULL);
        Due.is("a wrong one more", m.make(Sorts.PUT, 8, 0, 0), MarkedRuns.BAD);
        Due.is("count(4)", m.count(4), 120);
        Due.is("drop()", m.drop(), 119);
        Due.is("one again", Sorts.put(m, 0, 0), 119);
    }

    public static void main(String[] args) {
        ranges();
        heights();
        fullness();
        Due.end();
    }
}
