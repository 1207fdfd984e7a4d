import java.util.Arrays;

/** Programs of statements whose runs pay for their marks out of a budget, and are stopped where it does not do. */
public final class MarkedRuns {
    public static final int NONE = -1, BAD = -2, FULL = -3;

    private static final int STATEMENTS = 120;
    private static final int METHODS = 8;
    private static final int VARIABLES = 8;
    private static final int ROWS = 4;
    private static final int LOCKS = 4;
    private static final int HIGHEST = 16;
    private static final int MOST_BUDGET = 160;
    private static final int WHOLE_RESERVE = 40;

    /** How a statement, and so a run, ends. */
    private static final int END = 0, RETURNED = 1, THREW = 2, STOPPED = 3;
    private static final int ANSWERS = 4;

    private final Program program;
    private final int[] runsByAnswer;
    private Run latest;
    private Run earlier;

    public MarkedRuns() {
        program = new Program();
        runsByAnswer = new int[ANSWERS];
        latest = new Run(program);
        earlier = new Run(program);
    }

    public int make(int sort, int a, int b, int c) {
        if (!program.takes(sort, a, b, c)) {
            return BAD;
        }
        return program.isFull() ? FULL : program.add(sort, a, b, c);
    }

    public int drop() {
        return program.canLoseLast() ? program.loseLast() : BAD;
    }

    public int body(int method, int statement) {
        boolean known = statement == NONE || program.has(statement);
        if (!isBelow(method, METHODS) || !known) {
            return BAD;
        }
        program.setBody(method, statement);
        return 1;
    }

    public int run(int method, int x, int budget) {
        if (program.bodyOf(method) == NONE || !isBudget(budget)) {
            return BAD;
        }
        return counted(latest.perform(program.bodyOf(method), x, budget));
    }

    public int told(int what) {
        return latest.tell(what);
    }

    public int marks(int kind) {
        return isBelow(kind, Mark.KINDS) ? latest.purse.marksOf(kind) : BAD;
    }

    public int began(int k) {
        return k < 0 ? BAD : latest.purse.begunAt(k);
    }

    public int variable(int x) {
        return latest.memory.read(x);
    }

    public int size(int row) {
        return isBelow(row, ROWS) ? latest.memory.lengthOf(row) : BAD;
    }

    public int item(int row, int i) throws NullPointerException, ArrayIndexOutOfBoundsException {
        if (!isBelow(row, ROWS)) {
            throw new ArrayIndexOutOfBoundsException("no such row");
        }
        int length = latest.memory.lengthOf(row);
        if (length == NONE) {
            throw new NullPointerException("the row is null");
        }
        if (!isBelow(i, length)) {
            throw new ArrayIndexOutOfBoundsException("no such item");
        }
        return latest.memory.load(row, i);
    }

    public int same(int method, int x, int budget, int other) {
        if (program.bodyOf(method) == NONE || !isBudget(budget) || !isBudget(other)) {
            return BAD;
        }
        int body = program.bodyOf(method);
        Run first = latest;
        latest = earlier;
        earlier = first;
        counted(first.perform(body, x, budget));
        counted(latest.perform(body, x, other));
        return latest.tellsTheSameAs(first) ? 1 : 0;
    }

    public int count(int what) {
        if (what == 4) {
            return program.statements();
        }
        if (what == 5) {
            return program.bodies();
        }
        return isBelow(what, ANSWERS) ? runsByAnswer[what] : BAD;
    }

    private int counted(int answer) {
        if (isBelow(answer, ANSWERS)) {
            runsByAnswer[answer]++;
        }
        return answer;
    }

    private static boolean isBudget(int number) {
        return isBelow(number, MOST_BUDGET + 1);
    }

    private static boolean isBelow(int number, int bound) {
        return number >= 0 && number < bound;
    }

    /** The sorts of statements, numbered and named as in the document. */
    private static final class Sort {
        static final int PUT = 0, PLUS = 1, LESS = 2, TIMES = 3, BY = 4, REST = 5;
        static final int MAKE = 6, LOAD = 7, STORE = 8, LONG = 9, NONE = 10, SAME = 11;
        static final int BOTH = 12, IF = 13, LOOP = 14, CALL = 15, RETURN = 16, RAISE = 17;
        static final int TRY = 18, LAST = 19, GUARD = 20, GOT = 21;
    }

    /** The kinds that a statement throws. */
    private static final class Kind {
        static final int NULL = 1, INDEX = 2, SIZE = 3, ZERO = 4, OWN = 5, DEEP = 6;
        static final int ALL_BITS = 127;
    }

    /** The kinds of marks, and the prices of those that have a fixed one. */
    private static final class Mark {
        static final int BACK = 0, ENTRY = 1, HANDLER = 2, FINAL = 3, MAKING = 4;
        static final int KINDS = 5;
        static final int BACK_PRICE = 1, ENTRY_PRICE = 2, HANDLER_PRICE = 10, FINAL_PRICE = 10;

        static int makingPrice(int items) {
            return items < 0 ? 1 : 1 + items / 4;
        }
    }

    /** The statements, and the bodies of the methods. */
    private static final class Program {
        private final int[] sorts = new int[STATEMENTS];
        private final int[] firsts = new int[STATEMENTS];
        private final int[] seconds = new int[STATEMENTS];
        private final int[] thirds = new int[STATEMENTS];
        private final int[] heights = new int[STATEMENTS];
        private final int[] bodyByMethod = new int[METHODS];
        private int many;

        Program() {
            Arrays.fill(bodyByMethod, MarkedRuns.NONE);
        }

        int statements() {
            return many;
        }

        int bodies() {
            int found = 0;
            for (int method = 0; method < METHODS; method++) {
                if (bodyByMethod[method] != MarkedRuns.NONE) {
                    found++;
                }
            }
            return found;
        }

        boolean isFull() {
            return many >= STATEMENTS;
        }

        boolean has(int statement) {
            return isBelow(statement, many);
        }

        int sortOf(int statement) {
            return has(statement) ? sorts[statement] : MarkedRuns.NONE;
        }

        int firstOf(int statement) {
            return has(statement) ? firsts[statement] : MarkedRuns.NONE;
        }

        int secondOf(int statement) {
            return has(statement) ? seconds[statement] : MarkedRuns.NONE;
        }

        int thirdOf(int statement) {
            return has(statement) ? thirds[statement] : MarkedRuns.NONE;
        }

        int bodyOf(int method) {
            return isBelow(method, METHODS) ? bodyByMethod[method] : MarkedRuns.NONE;
        }

        void setBody(int method, int statement) {
            if (isBelow(method, METHODS)) {
                bodyByMethod[method] = statement;
            }
        }

        boolean takes(int sort, int a, int b, int c) {
            return operandsFit(sort, a, b, c) && heightWith(sort, a, b, c) <= HIGHEST;
        }

        int add(int sort, int a, int b, int c) {
            if (isFull()) {
                return MarkedRuns.FULL;
            }
            sorts[many] = sort;
            firsts[many] = a;
            seconds[many] = b;
            thirds[many] = c;
            heights[many] = heightWith(sort, a, b, c);
            many++;
            return many - 1;
        }

        boolean canLoseLast() {
            if (many == 0) {
                return false;
            }
            for (int method = 0; method < METHODS; method++) {
                if (bodyByMethod[method] == many - 1) {
                    return false;
                }
            }
            return true;
        }

        int loseLast() {
            many = Math.max(0, many - 1);
            return many;
        }

        private boolean operandsFit(int sort, int a, int b, int c) {
            switch (sort) {
                case Sort.PUT: case Sort.RETURN: case Sort.RAISE: case Sort.GOT:
                    return isVariable(a);
                case Sort.PLUS: case Sort.LESS: case Sort.TIMES: case Sort.BY: case Sort.REST:
                    return isVariable(a) && isVariable(b) && isVariable(c);
                case Sort.MAKE:
                    return isRow(a) && isVariable(b);
                case Sort.LOAD:
                    return isVariable(a) && isRow(b) && isVariable(c);
                case Sort.STORE:
                    return isRow(a) && isVariable(b) && isVariable(c);
                case Sort.LONG:
                    return isVariable(a) && isRow(b);
                case Sort.NONE:
                    return isRow(a);
                case Sort.SAME:
                    return isRow(a) && isRow(b);
                case Sort.BOTH: case Sort.LAST:
                    return has(a) && has(b);
                case Sort.IF:
                    return isVariable(a) && has(b) && has(c);
                case Sort.LOOP:
                    return isVariable(a) && has(b);
                case Sort.CALL:
                    return isBelow(a, METHODS);
                case Sort.TRY:
                    return has(a) && isBelow(b, Kind.ALL_BITS + 1) && has(c);
                case Sort.GUARD:
                    return isBelow(a, LOCKS) && has(b);
                default:
                    return false;
            }
        }

        private int heightWith(int sort, int a, int b, int c) {
            switch (sort) {
                case Sort.BOTH: case Sort.LAST:
                    return 1 + Math.max(heightOf(a), heightOf(b));
                case Sort.IF:
                    return 1 + Math.max(heightOf(b), heightOf(c));
                case Sort.LOOP: case Sort.GUARD:
                    return 1 + heightOf(b);
                case Sort.TRY:
                    return 1 + Math.max(heightOf(a), heightOf(c));
                default:
                    return 1;
            }
        }

        private int heightOf(int statement) {
            return has(statement) ? heights[statement] : 0;
        }

        private static boolean isVariable(int number) {
            return isBelow(number, VARIABLES);
        }

        private static boolean isRow(int number) {
            return isBelow(number, ROWS);
        }
    }

    /** What a run works on. Rows are stretches of one array, so that no run makes an array of its own. */
    private static final class Memory {
        /** A price of p buys at most 4 * p - 1 items, so this is more than budget and reserve can buy. */
        private static final int CELLS = 4 * (MOST_BUDGET + WHOLE_RESERVE);

        private final int[] variables = new int[VARIABLES];
        private final int[] starts = new int[ROWS];
        private final int[] lengths = new int[ROWS];
        private final int[] cells = new int[CELLS];
        private int used;
        private int result;

        Memory() {
            Arrays.fill(lengths, MarkedRuns.NONE);
        }

        void clear() {
            Arrays.fill(variables, 0);
            Arrays.fill(lengths, MarkedRuns.NONE);
            Arrays.fill(cells, 0);
            used = 0;
            result = 0;
        }

        int read(int variable) {
            return isBelow(variable, VARIABLES) ? variables[variable] : 0;
        }

        void write(int variable, int number) {
            if (isBelow(variable, VARIABLES)) {
                variables[variable] = number;
            }
        }

        int result() {
            return result;
        }

        void setResult(int number) {
            result = number;
        }

        int lengthOf(int row) {
            return isBelow(row, ROWS) ? lengths[row] : MarkedRuns.NONE;
        }

        void makeRow(int row, int length) {
            if (!isBelow(row, ROWS) || !isBelow(length, CELLS - used + 1)) {
                return;
            }
            starts[row] = used;
            lengths[row] = length;
            used += length;
        }

        void forgetRow(int row) {
            if (isBelow(row, ROWS)) {
                lengths[row] = MarkedRuns.NONE;
            }
        }

        void shareRow(int row, int from) {
            if (isBelow(row, ROWS) && isBelow(from, ROWS)) {
                starts[row] = starts[from];
                lengths[row] = lengths[from];
            }
        }

        int load(int row, int i) {
            if (!isBelow(row, ROWS) || !isBelow(i, lengths[row])) {
                return 0;
            }
            int cell = starts[row] + i;
            return isBelow(cell, CELLS) ? cells[cell] : 0;
        }

        void store(int row, int i, int number) {
            if (!isBelow(row, ROWS) || !isBelow(i, lengths[row])) {
                return;
            }
            int cell = starts[row] + i;
            if (isBelow(cell, CELLS)) {
                cells[cell] = number;
            }
        }

        boolean equalTo(Memory other) {
            if (other == null || result != other.result) {
                return false;
            }
            for (int variable = 0; variable < VARIABLES; variable++) {
                if (variables[variable] != other.variables[variable]) {
                    return false;
                }
            }
            for (int row = 0; row < ROWS; row++) {
                if (!rowEqualTo(other, row)) {
                    return false;
                }
            }
            return true;
        }

        private boolean rowEqualTo(Memory other, int row) {
            int length = lengthOf(row);
            if (length != other.lengthOf(row)) {
                return false;
            }
            for (int i = 0; i < length; i++) {
                if (load(row, i) != other.load(row, i)) {
                    return false;
                }
            }
            return true;
        }
    }

    /** Budget and reserve, and what was had for them. */
    private static final class Purse {
        private static final int MOST_BEGUN = 30;

        private final int[] countByMark = new int[Mark.KINDS];
        private final int[] begun = new int[MOST_BEGUN];
        private int manyBegun;
        private int budget;
        private int reserve;
        private int spentOfBudget;
        private int spentOfReserve;
        private boolean byReserve;

        void fill(int newBudget) {
            Arrays.fill(countByMark, 0);
            manyBegun = 0;
            budget = newBudget;
            reserve = WHOLE_RESERVE;
            spentOfBudget = 0;
            spentOfReserve = 0;
            byReserve = false;
        }

        boolean isByReserve() {
            return byReserve;
        }

        void setByReserve(boolean wanted) {
            byReserve = wanted;
        }

        /** Whether the mark could be paid; nothing is taken for one that could not. */
        boolean pays(int mark, int price) {
            if (price > (byReserve ? reserve : budget) || !isBelow(mark, Mark.KINDS)) {
                return false;
            }
            if (byReserve) {
                reserve -= price;
                spentOfReserve += price;
            } else {
                budget -= price;
                spentOfBudget += price;
            }
            countByMark[mark]++;
            return true;
        }

        void noteBegun(int statement) {
            if (manyBegun < MOST_BEGUN) {
                begun[manyBegun] = statement;
                manyBegun++;
            }
        }

        int begunAt(int k) {
            return isBelow(k, manyBegun) ? begun[k] : MarkedRuns.NONE;
        }

        int marksOf(int mark) {
            return isBelow(mark, Mark.KINDS) ? countByMark[mark] : 0;
        }

        int spentOfBudget() {
            return spentOfBudget;
        }

        int spentOfReserve() {
            return spentOfReserve;
        }
    }

    /** How often each lock is held, and the most that one was. */
    private static final class Locks {
        private final int[] held = new int[LOCKS];
        private int most;

        void clear() {
            Arrays.fill(held, 0);
            most = 0;
        }

        void take(int lock) {
            if (isBelow(lock, LOCKS)) {
                held[lock]++;
                most = Math.max(most, held[lock]);
            }
        }

        void free(int lock) {
            if (isBelow(lock, LOCKS)) {
                held[lock]--;
            }
        }

        int most() {
            return most;
        }

        int sum() {
            int sum = 0;
            for (int lock = 0; lock < LOCKS; lock++) {
                sum += held[lock];
            }
            return sum;
        }
    }

    /** The statements under way, the inmost on top: a stack of its own, so that no run makes Java's calls deep. */
    private static final class Frames {
        /** No method under way has more statements under way than its body is high. */
        private static final int MOST = METHODS * HIGHEST;

        private final int[] statements = new int[MOST];
        private final int[] stages = new int[MOST];
        private final int[] keptEndings = new int[MOST];
        private final int[] keptKinds = new int[MOST];
        private final int[] keptNumbers = new int[MOST];
        private int depth;

        void clear() {
            depth = 0;
        }

        boolean isEmpty() {
            return depth == 0;
        }

        void open(int statement) {
            if (depth < MOST) {
                statements[depth] = statement;
                stages[depth] = Run.NEW;
                depth++;
            }
        }

        void close() {
            if (depth > 0) {
                depth--;
            }
        }

        int statement() {
            return depth > 0 ? statements[depth - 1] : MarkedRuns.NONE;
        }

        int stage() {
            return depth > 0 ? stages[depth - 1] : Run.NEW;
        }

        void setStage(int stage) {
            if (depth > 0) {
                stages[depth - 1] = stage;
            }
        }

        void keep(int ending, int kind, int number) {
            if (depth > 0) {
                keptEndings[depth - 1] = ending;
                keptKinds[depth - 1] = kind;
                keptNumbers[depth - 1] = number;
            }
        }

        int keptEnding() {
            return depth > 0 ? keptEndings[depth - 1] : END;
        }

        int keptKind() {
            return depth > 0 ? keptKinds[depth - 1] : 0;
        }

        int keptNumber() {
            return depth > 0 ? keptNumbers[depth - 1] : 0;
        }
    }

    /** One run, from its entry to what is told of it afterwards. */
    private static final class Run {
        /** How far a statement under way is: its T stands in SECOND, or in RESERVED if a stopped run does it. */
        private static final int NEW = 0, FIRST = 1, SECOND = 2, RESERVED = 3;

        /**
         * Each entry leads through at most 2^16 statements and each time back through 2^15, of three steps at most,
         * and budget and reserve together do for 200 times back: some 20 million steps are the most there can be.
         */
        private static final int MOST_STEPS = 1000000000;

        private static final int HANDLED = 7;
        private static final int OWN_BASE = 100;

        private final Program program;
        private final Memory memory = new Memory();
        private final Purse purse = new Purse();
        private final Locks locks = new Locks();
        private final Frames frames = new Frames();
        private int answer = MarkedRuns.NONE;
        private int methods;
        private int mostMethods;

        /** How the statement that ended last did so. */
        private int ending;
        private int kind;
        private int number;

        Run(Program program) {
            this.program = program;
        }

        int perform(int body, int x, int budget) {
            clear(x, budget);
            if (purse.pays(Mark.ENTRY, Mark.ENTRY_PRICE)) {
                enter(body);
            } else {
                ending = STOPPED;
            }
            for (int step = 0; step < MOST_STEPS && !frames.isEmpty(); step++) {
                int statement = frames.statement();
                if (frames.stage() == NEW) {
                    begin(statement);
                } else {
                    goOn(statement);
                }
            }
            answer = ending;
            return answer;
        }

        int tell(int what) {
            switch (what) {
                case 0: return answer;
                case 1: return answer == THREW ? kind : 0;
                case 2: return answer == THREW ? number : 0;
                case 3: return memory.result();
                case 4: return purse.spentOfBudget();
                case 5: return purse.spentOfReserve();
                case 6: return mostMethods;
                case 7: return locks.most();
                case 8: return locks.sum();
                default: return MarkedRuns.BAD;
            }
        }

        boolean tellsTheSameAs(Run other) {
            if (other == null) {
                return false;
            }
            for (int what = 0; what <= 2; what++) {
                if (tell(what) != other.tell(what)) {
                    return false;
                }
            }
            return memory.equalTo(other.memory);
        }

        private void clear(int x, int budget) {
            memory.clear();
            memory.write(0, x);
            purse.fill(budget);
            locks.clear();
            frames.clear();
            methods = 0;
            mostMethods = 0;
            ending = END;
            kind = 0;
            number = 0;
        }

        private void begin(int statement) {
            int a = program.firstOf(statement);
            int b = program.secondOf(statement);
            int c = program.thirdOf(statement);
            int sort = program.sortOf(statement);
            switch (sort) {
                case Sort.BOTH: case Sort.TRY: case Sort.LAST:
                    doPart(FIRST, a);
                    break;
                case Sort.IF:
                    doPart(FIRST, memory.read(a) != 0 ? b : c);
                    break;
                case Sort.LOOP:
                    ending = END;
                    loopOrEnd(a, b);
                    break;
                case Sort.CALL:
                    call(a);
                    break;
                case Sort.GUARD:
                    locks.take(a);
                    doPart(FIRST, b);
                    break;
                default:
                    doAtOnce(sort, a, b, c);
                    break;
            }
        }

        /** Goes on with a statement whose part ended just now, as ending says. */
        private void goOn(int statement) {
            switch (program.sortOf(statement)) {
                case Sort.BOTH:
                    goOnWithBoth(statement);
                    break;
                case Sort.LOOP:
                    goOnWithLoop(statement);
                    break;
                case Sort.CALL:
                    methods--;
                    end(ending == RETURNED ? END : ending);
                    break;
                case Sort.TRY:
                    goOnWithTry(statement);
                    break;
                case Sort.LAST:
                    if (frames.stage() == FIRST) {
                        beginLastPart(statement);
                    } else {
                        endLastPart();
                    }
                    break;
                case Sort.GUARD:
                    locks.free(program.firstOf(statement));
                    frames.close();
                    break;
                default:
                    frames.close();
                    break;
            }
        }

        private void goOnWithBoth(int statement) {
            if (frames.stage() == FIRST && ending == END) {
                doPart(SECOND, program.secondOf(statement));
            } else {
                frames.close();
            }
        }

        private void goOnWithLoop(int statement) {
            if (ending != END) {
                frames.close();
            } else if (purse.pays(Mark.BACK, Mark.BACK_PRICE)) {
                loopOrEnd(program.firstOf(statement), program.secondOf(statement));
            } else {
                end(STOPPED);
            }
        }

        private void goOnWithTry(int statement) {
            boolean taken = ending == THREW && (program.secondOf(statement) >> kind & 1) == 1;
            if (frames.stage() != FIRST || !taken) {
                frames.close();
            } else if (purse.pays(Mark.HANDLER, Mark.HANDLER_PRICE)) {
                purse.noteBegun(statement);
                memory.write(HANDLED, kind == Kind.OWN ? OWN_BASE + number : kind);
                doPart(SECOND, program.thirdOf(statement));
            } else {
                end(STOPPED);
            }
        }

        private void beginLastPart(int statement) {
            int stage = payForLastPart();
            if (stage == MarkedRuns.NONE) {
                end(STOPPED);
            } else {
                frames.keep(ending, kind, number);
                purse.noteBegun(statement);
                doPart(stage, program.secondOf(statement));
            }
        }

        /** The stage in which a last part is done now, or NONE if nothing does for it. */
        private int payForLastPart() {
            if (ending != STOPPED && purse.pays(Mark.FINAL, Mark.FINAL_PRICE)) {
                return SECOND;
            }
            // Where the reserve itself did not do, no last part inside the reserved one is done any more.
            if (purse.isByReserve()) {
                return MarkedRuns.NONE;
            }
            purse.setByReserve(true);
            if (purse.pays(Mark.FINAL, Mark.FINAL_PRICE)) {
                return RESERVED;
            }
            purse.setByReserve(false);
            return MarkedRuns.NONE;
        }

        private void endLastPart() {
            if (frames.stage() == RESERVED) {
                purse.setByReserve(false);
                ending = STOPPED;
            } else if (ending == END) {
                ending = frames.keptEnding();
                kind = frames.keptKind();
                number = frames.keptNumber();
            }
            frames.close();
        }

        private void loopOrEnd(int variable, int part) {
            if (memory.read(variable) != 0) {
                doPart(FIRST, part);
            } else {
                frames.close();
            }
        }

        private void call(int method) {
            int body = program.bodyOf(method);
            if (methods >= METHODS) {
                raise(Kind.DEEP, 0);
                frames.close();
            } else if (body == MarkedRuns.NONE) {
                raise(Kind.NULL, 0);
                frames.close();
            } else if (purse.pays(Mark.ENTRY, Mark.ENTRY_PRICE)) {
                frames.setStage(FIRST);
                enter(body);
            } else {
                end(STOPPED);
            }
        }

        private void enter(int body) {
            methods++;
            mostMethods = Math.max(mostMethods, methods);
            frames.open(body);
        }

        private void doPart(int stage, int part) {
            frames.setStage(stage);
            frames.open(part);
        }

        private void end(int how) {
            ending = how;
            frames.close();
        }

        private void raise(int newKind, int newNumber) {
            ending = THREW;
            kind = newKind;
            number = newNumber;
        }

        /** The sorts without parts. */
        private void doAtOnce(int sort, int a, int b, int c) {
            ending = END;
            if (sort <= Sort.REST) {
                calculate(sort, a, b, c);
            } else if (sort <= Sort.SAME) {
                doWithRow(sort, a, b, c);
            } else if (sort == Sort.RETURN) {
                memory.setResult(memory.read(a));
                ending = RETURNED;
            } else if (sort == Sort.RAISE) {
                raise(Kind.OWN, memory.read(a));
            } else if (sort == Sort.GOT) {
                memory.write(a, memory.result());
            }
            frames.close();
        }

        private void calculate(int sort, int a, int b, int c) {
            int left = memory.read(b);
            int right = memory.read(c);
            switch (sort) {
                case Sort.PUT:
                    memory.write(a, b);
                    break;
                case Sort.PLUS:
                    memory.write(a, left + right);
                    break;
                case Sort.LESS:
                    memory.write(a, left - right);
                    break;
                case Sort.TIMES:
                    memory.write(a, left * right);
                    break;
                default:
                    divide(sort, a, left, right);
                    break;
            }
        }

        private void divide(int sort, int variable, int left, int right) {
            if (right == 0) {
                raise(Kind.ZERO, 0);
            } else {
                memory.write(variable, sort == Sort.BY ? left / right : left % right);
            }
        }

        private void doWithRow(int sort, int a, int b, int c) {
            switch (sort) {
                case Sort.MAKE:
                    makeRow(a, memory.read(b));
                    break;
                case Sort.LOAD:
                    if (reaches(b, memory.read(c))) {
                        memory.write(a, memory.load(b, memory.read(c)));
                    }
                    break;
                case Sort.STORE:
                    if (reaches(a, memory.read(b))) {
                        memory.store(a, memory.read(b), memory.read(c));
                    }
                    break;
                case Sort.LONG:
                    measureRow(a, b);
                    break;
                case Sort.NONE:
                    memory.forgetRow(a);
                    break;
                default:
                    memory.shareRow(a, b);
                    break;
            }
        }

        private void makeRow(int row, int length) {
            if (!purse.pays(Mark.MAKING, Mark.makingPrice(length))) {
                ending = STOPPED;
            } else if (length < 0) {
                raise(Kind.SIZE, 0);
            } else {
                memory.makeRow(row, length);
            }
        }

        private void measureRow(int variable, int row) {
            int length = memory.lengthOf(row);
            if (length == MarkedRuns.NONE) {
                raise(Kind.NULL, 0);
            } else {
                memory.write(variable, length);
            }
        }

        private boolean reaches(int row, int i) {
            int length = memory.lengthOf(row);
            if (length == MarkedRuns.NONE) {
                raise(Kind.NULL, 0);
                return false;
            }
            if (!isBelow(i, length)) {
                raise(Kind.INDEX, 0);
                return false;
            }
            return true;
        }
    }
}
