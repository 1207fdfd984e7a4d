import java.util.Random;

/** Any numbers in any state, by fixed seeds: no call throws by itself, and answers are those that there can be. */
public final class AnyNumbersTest extends Sorts {
    private static final int OBJECTS = 2000;

    /** Two calls at most each time, and 512 of one object. */
    private static final int TIMES = 256;

    private static final int[] EDGES = {
        MIN, MIN + 1, -161, -4, -3, -2, -1, 0, 1, 2, 3, 4, 5, 6, 7, 8, 9, 16, 21, 22, 29, 30, 31, 40, 119, 120, 121,
        126, 127, 128, 159, 160, 161, 631, 632, MAX - 1, MAX,
    };

    private static Random random;

    private static int any() {
        return random.nextInt(3) == 0 ? random.nextInt(8) : EDGES[random.nextInt(EDGES.length)];
    }

    private static void dueWithin(String call, int answer, int least, int most) {
        boolean within = answer >= least && answer <= most || answer == BAD;
        Due.is(call + " (1: within " + least + " .. " + most + ", or BAD)", within ? 1 : 0, 1);
    }

    private static void callOne() {
        switch (random.nextInt(13)) {
            case 0: case 1: case 2:
                int sort = random.nextInt(4) == 0 ? any() : random.nextInt(22);
                dueWithin("make", m.make(sort, any(), any(), any()), FULL, 119);
                break;
            case 3: dueWithin("drop", m.drop(), 0, 119); break;
            case 4: dueWithin("body", m.body(any(), any()), 1, 1); break;
            case 5: dueWithin("run", m.run(any(), any(), any()), END, STOPPED); break;
            case 6: dueWithin("same", m.same(any(), any(), any(), any()), 0, 1); break;
            case 7: dueWithin("marks", m.marks(any()), 0, 200); break;
            case 8: dueWithin("began", m.began(any()), NONE, 119); break;
            case 9: dueWithin("size", m.size(any()), NONE, 631); break;
            case 10: dueWithin("count", m.count(any()), 0, 1024); break;
            case 11: m.told(any()); m.variable(any()); break;
            default: Due.item(m, any(), any()); break;
        }
    }

    public static void main(String[] args) {
        Due.sentence("Calls answer BAD: a number is not as told; FULL: there are 120.");
        for (int seed = 0; seed < OBJECTS; seed++) {
            random = new Random(seed);
            fresh();
            try {
                for (int call = 0; call < TIMES; call++) {
                    callOne();
                }
            } catch (RuntimeException e) {
                Due.is("seed " + seed + " threw " + e, 1, 0);
            }
        }
        Due.end();
    }
}
