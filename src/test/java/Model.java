import java.util.ArrayList;
import java.util.Arrays;
import java.util.List;

/** The document once more, written another way (recursion, Java's own exceptions, arrays for rows), to compare with. */
final class Model {
    private static final class Thrown extends Exception {
        private static final long serialVersionUID = 1L;
        final int kind;
        final int number;

        Thrown(int kind, int number) {
            super(null, null, false, false);
            this.kind = kind;
            this.number = number;
        }
    }

    private static final class Returned extends Exception {
        private static final long serialVersionUID = 1L;

        Returned() {
            super(null, null, false, false);
        }
    }

    private static final class Stopped extends Exception {
        private static final long serialVersionUID = 1L;

        Stopped() {
            super(null, null, false, false);
        }
    }

    final List<int[]> statements = new ArrayList<>();
    final int[] bodies = {-1, -1, -1, -1, -1, -1, -1, -1};
    final int[] counts = new int[4];

    int answer = -1, kind, number, result, methods, mostMethods, mostLock;
    int[] left = new int[2], spent = new int[2];
    int pocket;
    int[] variables = new int[8];
    int[][] rows = new int[4][];
    int[] locks = new int[4];
    int[] marks = new int[5];
    List<Integer> began = new ArrayList<>();

    private int height(int s) {
        return statements.get(s)[4];
    }

    int make(int sort, int a, int b, int c) {
        String[] shapes = {"v", "vvv", "vvv", "vvv", "vvv", "vvv", "rv", "vrv", "rvv", "vr", "r", "rr",
            "ss", "vss", "vs", "v", "v", "v", "sns", "ss", "rs", "v"};
        if (sort < 0 || sort >= shapes.length) {
            return -2;
        }
        int[] operands = {a, b, c};
        int high = 0;
        for (int i = 0; i < shapes[sort].length(); i++) {
            char shape = shapes[sort].charAt(i);
            int bound = shape == 'v' ? 8 : shape == 'r' ? 4 : shape == 'n' ? 128 : statements.size();
            if (operands[i] < 0 || operands[i] >= bound) {
                return -2;
            }
            if (shape == 's') {
                high = Math.max(high, height(operands[i]));
            }
        }
        if (high >= 16) {
            return -2;
        }
        if (statements.size() == 120) {
            return -3;
        }
        statements.add(new int[] {sort, a, b, c, high + 1});
        return statements.size() - 1;
    }

    int drop() {
        int last = statements.size() - 1;
        if (last < 0 || Arrays.stream(bodies).anyMatch(body -> body == last)) {
            return -2;
        }
        statements.remove(last);
        return last;
    }

    int body(int method, int statement) {
        if (method < 0 || method > 7 || statement < -1 || statement >= statements.size()) {
            return -2;
        }
        bodies[method] = statement;
        return 1;
    }

    int run(int method, int x, int budget) {
        if (method < 0 || method > 7 || bodies[method] == -1 || budget < 0 || budget > 160) {
            return -2;
        }
        left = new int[] {budget, 40};
        spent = new int[2];
        variables = new int[] {x, 0, 0, 0, 0, 0, 0, 0};
        rows = new int[4][];
        locks = new int[4];
        marks = new int[5];
        began = new ArrayList<>();
        pocket = kind = number = result = methods = mostMethods = mostLock = 0;
        try {
            enter(bodies[method]);
            answer = 0;
        } catch (Returned e) {
            answer = 1;
        } catch (Thrown e) {
            answer = 2;
            kind = e.kind;
            number = e.number;
        } catch (Stopped e) {
            answer = 3;
        }
        counts[answer]++;
        return answer;
    }

    /** All that two runs are compared by. */
    String same() {
        return answer + " " + kind + " " + number + " " + result + Arrays.toString(variables)
            + Arrays.deepToString(rows);
    }

    int told(int what) {
        int sum = locks[0] + locks[1] + locks[2] + locks[3];
        return new int[] {answer, kind, number, result, spent[0], spent[1], mostMethods, mostLock, sum}[what];
    }

    private void pay(int mark, int price) throws Stopped {
        if (left[pocket] < price) {
            throw new Stopped();
        }
        left[pocket] -= price;
        spent[pocket] += price;
        marks[mark]++;
    }

    private void enter(int body) throws Thrown, Returned, Stopped {
        pay(1, 2);
        methods++;
        mostMethods = Math.max(mostMethods, methods);
        try {
            exec(body);
        } finally {
            methods--;
        }
    }

    private void reserved(int last, int t) {
        if (pocket == 1) {
            return;
        }
        pocket = 1;
        try {
            pay(3, 10);
            began.add(last);
            exec(t);
        } catch (Thrown | Returned | Stopped e) {
            // Stopped goes on outside, whatever this was.
        } finally {
            pocket = 0;
        }
    }

    private void last(int me, int s, int t) throws Thrown, Returned, Stopped {
        Thrown thrown = null;
        Returned returned = null;
        try {
            try {
                exec(s);
            } catch (Thrown e) {
                thrown = e;
            } catch (Returned e) {
                returned = e;
            }
            pay(3, 10);
        } catch (Stopped e) {
            reserved(me, t);
            throw e;
        }
        began.add(me);
        exec(t);
        if (thrown != null) {
            throw thrown;
        }
        if (returned != null) {
            throw returned;
        }
    }

    private int[] row(int r) throws Thrown {
        if (rows[r] == null) {
            throw new Thrown(1, 0);
        }
        return rows[r];
    }

    private int index(int r, int i) throws Thrown {
        if (i < 0 || i >= row(r).length) {
            throw new Thrown(2, 0);
        }
        return i;
    }

    private void exec(int me) throws Thrown, Returned, Stopped {
        int[] st = statements.get(me);
        int a = st[1], b = st[2], c = st[3];
        int[] v = variables;
        switch (st[0]) {
            case 0 -> v[a] = b;
            case 1 -> v[a] = v[b] + v[c];
            case 2 -> v[a] = v[b] - v[c];
            case 3 -> v[a] = v[b] * v[c];
            case 4, 5 -> {
                if (v[c] == 0) {
                    throw new Thrown(4, 0);
                }
                v[a] = st[0] == 4 ? v[b] / v[c] : v[b] % v[c];
            }
            case 6 -> {
                pay(4, v[b] < 0 ? 1 : 1 + v[b] / 4);
                if (v[b] < 0) {
                    throw new Thrown(3, 0);
                }
                rows[a] = new int[v[b]];
            }
            case 7 -> v[a] = row(b)[index(b, v[c])];
            case 8 -> row(a)[index(a, v[b])] = v[c];
            case 9 -> v[a] = row(b).length;
            case 10 -> rows[a] = null;
            case 11 -> rows[a] = rows[b];
            case 12 -> {
                exec(a);
                exec(b);
            }
            case 13 -> exec(v[a] != 0 ? b : c);
            case 14 -> {
                while (v[a] != 0) {
                    exec(b);
                    pay(0, 1);
                }
            }
            case 15 -> {
                if (methods == 8) {
                    throw new Thrown(6, 0);
                }
                if (bodies[a] == -1) {
                    throw new Thrown(1, 0);
                }
                try {
                    enter(bodies[a]);
                } catch (Returned e) {
                    // The return of a body is the end of the call.
                }
            }
            case 16 -> {
                result = v[a];
                throw new Returned();
            }
            case 17 -> throw new Thrown(5, v[a]);
            case 18 -> {
                int taken = 0;
                try {
                    exec(a);
                } catch (Thrown e) {
                    if ((b & 1 << e.kind) == 0) {
                        throw e;
                    }
                    taken = e.kind == 5 ? 100 + e.number : e.kind;
                    handle(me, taken, c);
                }
            }
            case 19 -> last(me, a, b);
            case 20 -> {
                locks[a]++;
                mostLock = Math.max(mostLock, locks[a]);
                try {
                    exec(b);
                } finally {
                    locks[a]--;
                }
            }
            case 21 -> v[a] = result;
            default -> throw new IllegalStateException();
        }
    }

    private void handle(int me, int code, int t) throws Thrown, Returned, Stopped {
        pay(2, 10);
        began.add(me);
        variables[7] = code;
        exec(t);
    }
}
