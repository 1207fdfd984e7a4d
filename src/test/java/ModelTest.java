import java.util.Random;

/** Programs by a fixed seed, and all that is told of their runs, compared with the model, 512 calls of each object. */
public final class ModelTest {
    private static final int OBJECTS = 40000;
    private static final int CALLS = 512;

    private int calls;
    private final Random random;
    private final MarkedRuns m = new MarkedRuns();
    private final Model model = new Model();
    private final int[] weights;
    private final int kindOfStatements;

    private ModelTest(long seed) {
        random = new Random(seed);
        kindOfStatements = random.nextInt(4);
        weights = new int[22];
        for (int sort = 0; sort < 22; sort++) {
            weights[sort] = 1 + random.nextInt(4);
        }
        int[][] favoured = {{12, 18, 19, 20}, {12, 14, 15, 19}, {6, 7, 8, 12}, {12, 13, 16, 17}};
        for (int sort : favoured[kindOfStatements]) {
            weights[sort] += 8;
        }
    }

    /** Behind the last call of an object its answers are free. */
    private void due(String what, long got, long want) {
        if (calls < CALLS) {
            Due.is(what, got, want);
        }
        calls++;
    }

    private int pickSort() {
        int sum = 0;
        for (int weight : weights) {
            sum += weight;
        }
        int at = random.nextInt(sum);
        int sort = 0;
        while (at >= weights[sort]) {
            at -= weights[sort];
            sort++;
        }
        return sort;
    }

    private int small() {
        return random.nextInt(20) == 0 ? random.nextInt() : random.nextInt(12) - 3;
    }

    private int statement() {
        int many = model.statements.size();
        int far = random.nextInt(3) == 0 ? random.nextInt(many + 1) : random.nextInt(Math.min(many, 6) + 1);
        return random.nextInt(60) == 0 ? random.nextInt(3) - 2 : many - far;
    }

    private int operand(int bound) {
        return random.nextInt(60) == 0 ? random.nextInt(20) - 5 : random.nextInt(bound);
    }

    private void make() {
        int sort = random.nextInt(80) == 0 ? random.nextInt(30) - 4 : pickSort();
        int a = operand(8), b = operand(8), c = operand(8);
        switch (sort) {
            case 0 -> b = small();
            case 6, 8, 10 -> a = operand(4);
            case 7, 9 -> b = operand(4);
            case 11 -> { a = operand(4); b = operand(4); }
            case 12, 19 -> { a = statement(); b = statement(); }
            case 13 -> { b = statement(); c = statement(); }
            case 14 -> b = statement();
            case 15 -> a = operand(4);
            case 18 -> { a = statement(); b = random.nextInt(3) == 0 ? operand(128) : 126; c = statement(); }
            case 20 -> { a = operand(4); b = statement(); }
            default -> { }
        }
        due("make(" + sort + ", " + a + ", " + b + ", " + c + ")", m.make(sort, a, b, c),
            model.make(sort, a, b, c));
    }

    private int budget() {
        return random.nextInt(40) == 0 ? random.nextInt(8) + 156 : random.nextInt(4) == 0 ? random.nextInt(20)
            : random.nextInt(161);
    }

    private void compareOne() {
        switch (random.nextInt(6)) {
            case 0 -> {
                int what = random.nextInt(9);
                due("told(" + what + ")", m.told(what), model.told(what));
            }
            case 1 -> {
                int kind = random.nextInt(5);
                due("marks(" + kind + ")", m.marks(kind), model.marks[kind]);
            }
            case 2 -> {
                int k = random.nextInt(20);
                due("began(" + k + ")", m.began(k), k < model.began.size() ? model.began.get(k) : -1);
            }
            case 3 -> {
                int x = random.nextInt(8);
                due("variable(" + x + ")", m.variable(x), model.variables[x]);
            }
            case 4 -> {
                int r = random.nextInt(4);
                due("size(" + r + ")", m.size(r), model.rows[r] == null ? -1 : model.rows[r].length);
            }
            default -> {
                int what = random.nextInt(6);
                due("count(" + what + ")", m.count(what), modelCount(what));
            }
        }
    }

    private int modelCount(int what) {
        if (what == 4) {
            return model.statements.size();
        }
        int many = 0;
        for (int body : model.bodies) {
            many += body == -1 ? 0 : 1;
        }
        return what == 5 ? many : model.counts[what];
    }

    private void compareAll(String run) {
        for (int what = 0; what <= 8; what++) {
            due(run + " told(" + what + ")", m.told(what), model.told(what));
        }
        for (int kind = 0; kind <= 4; kind++) {
            due(run + " marks(" + kind + ")", m.marks(kind), model.marks[kind]);
        }
        for (int k = 0; k <= model.began.size(); k++) {
            due(run + " began(" + k + ")", m.began(k), k < model.began.size() ? model.began.get(k) : -1);
        }
        for (int x = 0; x <= 7; x++) {
            due(run + " variable(" + x + ")", m.variable(x), model.variables[x]);
        }
        for (int r = 0; r <= 3; r++) {
            int[] row = model.rows[r];
            due(run + " size(" + r + ")", m.size(r), row == null ? -1 : row.length);
            // Of a long row the first and the last items, since every look is one of the object's calls.
            for (int i = 0; row != null && i <= row.length; i = i == 5 ? Math.max(6, row.length - 1) : i + 1) {
                due(run + " item(" + r + ", " + i + ")", Due.item(m, r, i),
                    i < row.length ? row[i] : Due.INDEX_THROWN);
            }
        }
    }

    private void doRun() {
        int method = operand(4), x = small(), budget = budget();
        String run = "run(" + method + ", " + x + ", " + budget + ")";
        due(run, m.run(method, x, budget), model.run(method, x, budget));
        compareAll(run);
    }

    private void doSame() {
        int method = operand(4), x = small(), budget = budget(), other = budget();
        boolean bad = method < 0 || method > 7 || model.bodies[method] == -1 || budget > 160 || other > 160;
        int want = MarkedRuns.BAD;
        if (!bad) {
            model.run(method, x, budget);
            String first = model.same();
            model.run(method, x, other);
            want = first.equals(model.same()) ? 1 : 0;
        }
        String same = "same(" + method + ", " + x + ", " + budget + ", " + other + ")";
        due(same, m.same(method, x, budget, other), want);
        compareAll(same);
    }

    private void go() {
        int toMake = 10 + random.nextInt(100);
        for (int call = 0; call < toMake; call++) {
            make();
        }
        while (calls < CALLS) {
            int dice = random.nextInt(20);
            if (dice < 3) {
                make();
            } else if (dice == 3) {
                due("drop()", m.drop(), model.drop());
            } else if (dice < 9) {
                int method = operand(4), statement = random.nextInt(12) == 0 ? -1 : statement();
                due("body(" + method + ", " + statement + ")", m.body(method, statement),
                    model.body(method, statement));
            } else if (dice < 15) {
                doRun();
            } else if (dice < 17) {
                doSame();
            } else {
                compareOne();
            }
        }
    }

    public static void main(String[] args) {
        for (int seed = 0; seed < OBJECTS; seed++) {
            new ModelTest(seed).go();
        }
        Due.end();
    }
}
