import java.util.Arrays;

/**
 * A bench that looks for inputs on which a small machine fails, tells the faults apart, and cuts
 * each one's input down. The promises stand in the document (../shared/DOC.md).
 *
 * <p>Every row is made by the constructor and used again, so that no call makes an object.
 */
public final class ShrinkBench {
    public static final int NONE = -1, BAD = -2, STATE = -3, FULL = -4;

    private static final int MOST_OF_A_CHANGE = 1_000_000_000;
    private static final int CHANGES = 7;
    /** The inputs of at most one byte: the empty one, and one for each byte. */
    private static final int SMALL_INPUTS = 257;

    private final Program program = new Program();
    private final Input tape = new Input();
    private final Input spare = new Input();
    private final Trace latest = new Trace();
    /** For runs that told() and its kind must not see. */
    private final Trace probe = new Trace();
    private final Bench bench0 = new Bench();
    private final Bench bench1 = new Bench();
    private final Changer changer = new Changer();
    private final Cutter cutter = new Cutter();
    private int refusal = 0;

    public ShrinkBench() {
    }

    public int code(int op, int a, int b, int c) {
        if (!Program.fits(op, a, b, c)) {
            return BAD;
        }
        if (bench0.tries() > 0 || bench1.tries() > 0) {
            return STATE;
        }
        return program.append(op, a, b, c) ? program.size() - 1 : FULL;
    }

    public int wipe() {
        int many = program.size();
        program.clear();
        bench0.clear();
        bench1.clear();
        return many;
    }

    public int instruction(int place, int what) {
        boolean there = program.has(place) && Program.isPart(what);
        refusal = there ? 0 : NONE;
        return there ? program.part(place, what) : NONE;
    }

    public int status() {
        return refusal;
    }

    public int feed(int b) {
        if (!Input.isByte(b)) {
            return BAD;
        }
        return tape.append(b) ? tape.size() : FULL;
    }

    public int keep(int n) {
        if (n < 0 || n > tape.size()) {
            return BAD;
        }
        tape.shorten(n);
        return n;
    }

    public int at(int i) {
        return tape.has(i) ? tape.get(i) : NONE;
    }

    public int change(int bench, int kind, int x, int y) {
        Bench chosen = benchOf(bench);
        if (chosen == null) {
            return NONE;
        }
        if (kind < 0 || kind >= CHANGES || !isOfAChange(x) || !isOfAChange(y)) {
            return BAD;
        }
        changer.apply(tape, chosen.inputs(), kind, x, y);
        return tape.size();
    }

    public int run() {
        latest.execute(program, tape);
        return latest.kind();
    }

    public int told(int what) {
        switch (what) {
            case 0:
                return latest.kind();
            case 1:
                return latest.place();
            case 2:
                return latest.depth();
            case 3:
                return latest.steps();
            case 4:
                return latest.branchesReached();
            default:
                return NONE;
        }
    }

    public int called(int i) {
        return latest.openCall(i);
    }

    public int register(int r) {
        boolean there = Trace.isRegister(r);
        refusal = there ? 0 : NONE;
        return there ? latest.value(r) : NONE;
    }

    public int turns(int branch) {
        return Trace.isBranch(branch) ? latest.turnsOf(branch) : NONE;
    }

    public int attempt(int bench) {
        Bench chosen = benchOf(bench);
        if (chosen == null) {
            return NONE;
        }
        latest.execute(program, tape);
        return chosen.take(latest, tape);
    }

    public int about(int bench, int what) {
        Bench chosen = benchOf(bench);
        if (chosen == null) {
            return NONE;
        }
        switch (what) {
            case 0:
                return chosen.inputs().size();
            case 1:
                return chosen.faults().size();
            case 2:
                return chosen.reachesCovered();
            case 3:
                return chosen.branchesCovered();
            case 4:
                return chosen.tries();
            default:
                return NONE;
        }
    }

    public int covered(int bench, int branch, int digits) {
        Bench chosen = benchOf(bench);
        if (chosen == null || !Trace.isBranch(branch) || !Bench.isDigits(digits)) {
            return NONE;
        }
        return chosen.covers(branch, digits) ? 1 : 0;
    }

    public int pool(int bench, int i) {
        Bench chosen = benchOf(bench);
        if (chosen == null || !chosen.inputs().has(i)) {
            return NONE;
        }
        chosen.inputs().copyTo(i, tape);
        return tape.size();
    }

    public int fault(int bench, int f, int what) {
        Bench chosen = benchOf(bench);
        return chosen == null ? NONE : chosen.faults().part(f, what);
    }

    public int first(int bench, int f) {
        Bench chosen = benchWithFault(bench, f);
        if (chosen == null) {
            return NONE;
        }
        chosen.faults().firsts().copyTo(f, tape);
        return tape.size();
    }

    public int cut(int bench, int f) {
        Bench chosen = benchWithFault(bench, f);
        if (chosen == null) {
            return NONE;
        }
        cutter.shrink(program, chosen.faults(), f);
        tape.copy(cutter.result());
        return tape.size();
    }

    public int runs() {
        return cutter.runsMade();
    }

    public int least(int bench, int f) {
        Bench chosen = benchWithFault(bench, f);
        if (chosen == null) {
            return NONE;
        }
        for (int k = 0; k < SMALL_INPUTS; k++) {
            probeSmallInput(k);
            if (chosen.faults().matches(f, probe)) {
                tape.copy(spare);
                return tape.size();
            }
        }
        return STATE;
    }

    public int unseen(int branch) {
        if (!Trace.isBranch(branch) || !program.branchesAt(branch / 2)) {
            return NONE;
        }
        for (int k = 0; k < SMALL_INPUTS; k++) {
            probeSmallInput(k);
            if (probe.turnsOf(branch) > 0) {
                return 0;
            }
        }
        return 1;
    }

    public int merge(int bench) {
        Bench chosen = benchOf(bench);
        if (chosen == null) {
            return NONE;
        }
        Bench other = bench == 0 ? bench1 : bench0;
        return takeAll(chosen, other.inputs()) + takeAll(chosen, other.faults().firsts());
    }

    private Bench benchOf(int bench) {
        if (bench == 0) {
            return bench0;
        }
        return bench == 1 ? bench1 : null;
    }

    private Bench benchWithFault(int bench, int f) {
        Bench chosen = benchOf(bench);
        return chosen != null && chosen.faults().has(f) ? chosen : null;
    }

    private static boolean isOfAChange(int number) {
        return number >= 0 && number <= MOST_OF_A_CHANGE;
    }

    /** The small inputs in their order: the empty one, then byte 0, byte 1 and so on. */
    private void probeSmallInput(int k) {
        spare.shorten(0);
        if (k > 0) {
            spare.append(k - 1);
        }
        probe.execute(program, spare);
    }

    /** Tries all inputs of a shelf in a bench: how many came to its pool. */
    private int takeAll(Bench bench, Shelf shelf) {
        int came = 0;
        for (int i = 0; i < shelf.size(); i++) {
            shelf.copyTo(i, spare);
            probe.execute(program, spare);
            came += bench.take(probe, spare) & Bench.TO_THE_POOL;
        }
        return came;
    }

    /** The instructions. */
    private static final class Program {
        static final int OP = 0, A = 1, B = 2, C = 3;
        static final int SET = 0, COPY = 1, ADD = 2, SUBTRACT = 3, MULTIPLY = 4, DIVIDE = 5;
        static final int NEXT = 6, PICK = 7, COUNT = 8, STORE = 9, LOAD = 10;
        static final int IF_LESS = 11, IF_SAME = 12, JUMP = 13;
        static final int CALL = 14, RETURN = 15, CHECK = 16, END = 17;

        private static final int MOST = 80;
        private static final int PARTS = 4;

        private final int[] rows = new int[MOST * PARTS];
        private int many = 0;

        static boolean isPart(int what) {
            return what >= 0 && what < PARTS;
        }

        static boolean fits(int op, int a, int b, int c) {
            return isWithin(op, END)
                    && isWithin(a, namesA(op) ? Trace.REGISTERS - 1 : 0)
                    && (op == SET || isWithin(b, namesB(op) ? Trace.REGISTERS - 1 : 0))
                    && isWithin(c, namesC(op) ? MOST - 1 : 0);
        }

        private static boolean isWithin(int number, int most) {
            return number >= 0 && number <= most;
        }

        private static boolean namesA(int op) {
            return op <= IF_SAME || op == CHECK;
        }

        private static boolean namesB(int op) {
            return op >= COPY && op <= IF_SAME && op != NEXT && op != COUNT;
        }

        private static boolean namesC(int op) {
            return op >= IF_LESS && op <= CALL;
        }

        int size() {
            return many;
        }

        boolean has(int place) {
            return place >= 0 && place < many;
        }

        int part(int place, int what) {
            return has(place) && isPart(what) ? rows[place * PARTS + what] : NONE;
        }

        boolean branchesAt(int place) {
            int op = part(place, OP);
            return op == IF_LESS || op == IF_SAME;
        }

        boolean append(int op, int a, int b, int c) {
            if (many < 0 || many >= MOST) {
                return false;
            }
            int from = many * PARTS;
            rows[from + OP] = op;
            rows[from + A] = a;
            rows[from + B] = b;
            rows[from + C] = c;
            many++;
            return true;
        }

        void clear() {
            many = 0;
        }
    }

    /** Up to 24 bytes. */
    private static final class Input {
        static final int MOST = 24;
        static final int BYTES = 256;

        private final int[] bytes = new int[MOST];
        private int length = 0;

        static boolean isByte(int b) {
            return b >= 0 && b < BYTES;
        }

        int size() {
            return length;
        }

        boolean has(int i) {
            return i >= 0 && i < length && i < MOST;
        }

        int get(int i) {
            return i >= 0 && i < length && i < MOST ? bytes[i] : NONE;
        }

        void put(int i, int b) {
            if (i >= 0 && i < length && i < MOST) {
                bytes[i] = b;
            }
        }

        /** Whether there was room for it. */
        boolean append(int b) {
            if (length < 0 || length >= MOST) {
                return false;
            }
            bytes[length] = b;
            length++;
            return true;
        }

        /** The bytes of another input from a place on up to another, as far as both have room. */
        void appendPart(Input other, int from, int upTo) {
            for (int i = from; i < upTo && other.has(i); i++) {
                append(other.get(i));
            }
        }

        void shorten(int n) {
            if (n >= 0 && n < length) {
                length = n;
            }
        }

        void copy(Input other) {
            shorten(0);
            appendPart(other, 0, MOST);
        }

        /** The first bytes of another input, and behind them its bytes from a place on. */
        void copyParts(Input other, int upTo, int from) {
            shorten(0);
            appendPart(other, 0, upTo);
            appendPart(other, from, MOST);
        }
    }

    /** Inputs that are kept, numbered from 0 on. */
    private static final class Shelf {
        private final int most;
        private final int[] bytes;
        private final int[] lengths;
        private int many = 0;

        Shelf(int most) {
            this.most = Math.max(most, 0);
            this.bytes = new int[this.most * Input.MOST];
            this.lengths = new int[this.most];
        }

        int size() {
            return many;
        }

        boolean has(int i) {
            return i >= 0 && i < many && i < most;
        }

        /** Whether there was room for it. */
        boolean append(Input input) {
            if (many < 0 || many >= most) {
                return false;
            }
            int from = many * Input.MOST;
            for (int j = 0; j < input.size() && j < Input.MOST; j++) {
                bytes[from + j] = input.get(j);
            }
            lengths[many] = input.size();
            many++;
            return true;
        }

        void copyTo(int i, Input input) {
            if (!has(i)) {
                return;
            }
            input.shorten(0);
            int from = i * Input.MOST;
            for (int j = 0; j < lengths[i] && j < Input.MOST; j++) {
                input.append(bytes[from + j]);
            }
        }

        void clear() {
            many = 0;
        }
    }

    /** One run of the machine, and what is known of it when it has ended. */
    private static final class Trace {
        static final int REGISTERS = 8;
        static final int BRANCHES = 160;

        private static final int PLACES_IN_ROW = 16;
        private static final int MOST_CALLS = 8;
        private static final int MOST_STEPS = 400;
        private static final int BEHIND_THE_LAST = -1;
        private static final int BY_ZERO = 1, NO_PLACE = 2, TOO_DEEP = 3, UNTRUE = 4, TOO_LONG = 5;

        private final int[] registers = new int[REGISTERS];
        private final int[] row = new int[PLACES_IN_ROW];
        private final int[] calls = new int[MOST_CALLS];
        private final int[] taken = new int[BRANCHES];
        private int openCalls = 0;
        private int verdict = 0;
        private int failedAt = NONE;
        private int stepsDone = 0;
        private int bytesRead = 0;
        private int here = 0;
        private int next = 0;
        private boolean going = false;

        static boolean isRegister(int r) {
            return r >= 0 && r < REGISTERS;
        }

        static boolean isBranch(int branch) {
            return branch >= 0 && branch < BRANCHES;
        }

        private static boolean isInRow(int i) {
            return i >= 0 && i < PLACES_IN_ROW;
        }

        int kind() {
            return verdict;
        }

        int place() {
            return failedAt;
        }

        int depth() {
            return openCalls;
        }

        int steps() {
            return stepsDone;
        }

        int value(int r) {
            return r >= 0 && r < REGISTERS ? registers[r] : 0;
        }

        int turnsOf(int branch) {
            return isBranch(branch) ? taken[branch] : 0;
        }

        /** The place of an open call, the innermost being 0; NONE if there is none such. */
        int openCall(int i) {
            if (i < 0 || i >= openCalls || openCalls > MOST_CALLS) {
                return NONE;
            }
            return calls[openCalls - 1 - i];
        }

        int branchesReached() {
            int reached = 0;
            for (int branch = 0; branch < BRANCHES; branch++) {
                if (taken[branch] > 0) {
                    reached++;
                }
            }
            return reached;
        }

        void execute(Program program, Input input) {
            reset();
            for (stepsDone = 0; stepsDone < MOST_STEPS && isOn(program); stepsDone++) {
                int op = program.part(here, Program.OP);
                int a = program.part(here, Program.A);
                int b = program.part(here, Program.B);
                int c = program.part(here, Program.C);
                next = here + 1;
                if (op <= Program.DIVIDE) {
                    reckon(op, a, b);
                } else if (op <= Program.COUNT) {
                    readInput(op, a, b, input);
                } else if (op <= Program.LOAD) {
                    useRow(op, a, b);
                } else if (op <= Program.JUMP) {
                    jump(op, a, b, c);
                } else if (op == Program.CALL) {
                    openCallTo(c);
                } else if (op == Program.RETURN) {
                    goBack();
                } else {
                    checkOrEnd(op, a);
                }
                here = next;
            }
            if (isOn(program)) {
                fail(TOO_LONG);
            }
            // A run that ended well has no open calls to tell of, wherever it ended.
            if (verdict == 0) {
                openCalls = 0;
            }
        }

        private void reset() {
            Arrays.fill(registers, 0);
            Arrays.fill(row, 0);
            Arrays.fill(taken, 0);
            openCalls = 0;
            verdict = 0;
            failedAt = NONE;
            bytesRead = 0;
            here = 0;
            going = true;
        }

        private boolean isOn(Program program) {
            return going && program.has(here);
        }

        private void fail(int kind) {
            verdict = kind;
            failedAt = here;
            going = false;
        }

        private void put(int r, int number) {
            if (r >= 0 && r < REGISTERS) {
                registers[r] = number;
            }
        }

        private void reckon(int op, int a, int b) {
            int left = value(a);
            int right = value(b);
            switch (op) {
                case Program.SET:
                    put(a, b);
                    break;
                case Program.COPY:
                    put(a, right);
                    break;
                case Program.ADD:
                    put(a, left + right);
                    break;
                case Program.SUBTRACT:
                    put(a, left - right);
                    break;
                case Program.MULTIPLY:
                    put(a, left * right);
                    break;
                default:
                    if (right == 0) {
                        fail(BY_ZERO);
                    } else {
                        put(a, left / right);
                    }
                    break;
            }
        }

        private void readInput(int op, int a, int b, Input input) {
            if (op == Program.NEXT) {
                put(a, input.has(bytesRead) ? input.get(bytesRead) : BEHIND_THE_LAST);
                bytesRead++;
            } else if (op == Program.COUNT) {
                put(a, input.size());
            } else if (input.has(value(b))) {
                put(a, input.get(value(b)));
            } else {
                fail(NO_PLACE);
            }
        }

        private void useRow(int op, int a, int b) {
            int i = op == Program.STORE ? value(a) : value(b);
            if (!isInRow(i)) {
                fail(NO_PLACE);
            } else if (op == Program.STORE) {
                row[i] = value(b);
            } else {
                put(a, row[i]);
            }
        }

        private void jump(int op, int a, int b, int c) {
            if (op == Program.JUMP) {
                next = c;
                return;
            }
            boolean goes = op == Program.IF_LESS ? value(a) < value(b) : value(a) == value(b);
            int branch = 2 * here + (goes ? 1 : 0);
            if (isBranch(branch)) {
                taken[branch]++;
            }
            if (goes) {
                next = c;
            }
        }

        private void openCallTo(int c) {
            if (openCalls < 0 || openCalls >= MOST_CALLS) {
                fail(TOO_DEEP);
                return;
            }
            calls[openCalls] = here;
            openCalls++;
            next = c;
        }

        private void goBack() {
            int from = openCall(0);
            if (from == NONE) {
                going = false;
                return;
            }
            openCalls--;
            next = from + 1;
        }

        private void checkOrEnd(int op, int a) {
            if (op != Program.CHECK) {
                going = false;
            } else if (value(a) == 0) {
                fail(UNTRUE);
            }
        }
    }

    /** The faults of a bench, told apart by kind, place and the two innermost calls. */
    private static final class Faults {
        private static final int MOST = 20;
        private static final int KIND = 0, PLACE = 1, INNER = 2, OUTER = 3, SEEN = 4;
        private static final int PARTS = 5;

        private final int[] rows = new int[MOST * PARTS];
        private final Shelf firstInputs = new Shelf(MOST);

        int size() {
            return firstInputs.size();
        }

        boolean has(int f) {
            return f >= 0 && f < MOST && f < firstInputs.size();
        }

        Shelf firsts() {
            return firstInputs;
        }

        int part(int f, int what) {
            return has(f) && what >= 0 && what < PARTS ? rows[f * PARTS + what] : NONE;
        }

        boolean matches(int f, Trace trace) {
            if (!has(f)) {
                return false;
            }
            int from = f * PARTS;
            return rows[from + KIND] == trace.kind()
                    && rows[from + PLACE] == trace.place()
                    && rows[from + INNER] == trace.openCall(0)
                    && rows[from + OUTER] == trace.openCall(1);
        }

        /** Whether the run had a fault that came to these. */
        boolean take(Trace trace, Input input) {
            if (trace.kind() == 0) {
                return false;
            }
            for (int f = 0; f < size() && f < MOST; f++) {
                if (matches(f, trace)) {
                    rows[f * PARTS + SEEN]++;
                    return false;
                }
            }
            return append(trace, input);
        }

        private boolean append(Trace trace, Input input) {
            int f = size();
            if (f < 0 || f >= MOST || !firstInputs.append(input)) {
                return false;
            }
            int from = f * PARTS;
            rows[from + KIND] = trace.kind();
            rows[from + PLACE] = trace.place();
            rows[from + INNER] = trace.openCall(0);
            rows[from + OUTER] = trace.openCall(1);
            rows[from + SEEN] = 1;
            return true;
        }

        void clear() {
            firstInputs.clear();
        }
    }

    /** A pool, faults and a cover. */
    private static final class Bench {
        static final int TO_THE_POOL = 1, TO_THE_FAULTS = 2;

        private static final int MOST_INPUTS = 40;
        private static final int MOST_DIGITS = 9;

        private final Shelf poolInputs = new Shelf(MOST_INPUTS);
        private final Faults faultsFound = new Faults();
        /** For each branch, bit d is set if turns of d digits are in the cover. */
        private final int[] cover = new int[Trace.BRANCHES];
        private int inputsTried = 0;

        static boolean isDigits(int digits) {
            return digits >= 1 && digits <= MOST_DIGITS;
        }

        Shelf inputs() {
            return poolInputs;
        }

        Faults faults() {
            return faultsFound;
        }

        int tries() {
            return inputsTried;
        }

        boolean covers(int branch, int digits) {
            return Trace.isBranch(branch) && isDigits(digits)
                    && (cover[branch] >> digits & 1) == 1;
        }

        int reachesCovered() {
            int many = 0;
            for (int branch = 0; branch < cover.length; branch++) {
                many += Integer.bitCount(cover[branch]);
            }
            return many;
        }

        int branchesCovered() {
            int many = 0;
            for (int branch = 0; branch < cover.length; branch++) {
                if (cover[branch] != 0) {
                    many++;
                }
            }
            return many;
        }

        /** What came of trying an input, of which this is the run. */
        int take(Trace trace, Input input) {
            inputsTried++;
            int came = 0;
            if (reachFurther(trace) && poolInputs.append(input)) {
                came += TO_THE_POOL;
            }
            if (faultsFound.take(trace, input)) {
                came += TO_THE_FAULTS;
            }
            return came;
        }

        /** Takes the reaches of a run into the cover: whether one was new there. */
        private boolean reachFurther(Trace trace) {
            boolean further = false;
            for (int branch = 0; branch < cover.length; branch++) {
                int turns = trace.turnsOf(branch);
                if (turns > 0 && !covers(branch, digitsOf(turns))) {
                    cover[branch] |= 1 << digitsOf(turns);
                    further = true;
                }
            }
            return further;
        }

        private static int digitsOf(int turns) {
            int digits = 0;
            for (int rest = turns; rest > 0; rest >>= 1) {
                digits++;
            }
            return digits;
        }

        void clear() {
            poolInputs.clear();
            faultsFound.clear();
            Arrays.fill(cover, 0);
            inputsTried = 0;
        }
    }

    /** Changes an input by two numbers. */
    private static final class Changer {
        private static final int TURN_BIT = 0, SET_BYTE = 1, DROP = 2, REPEAT = 3;
        private static final int INSERT = 4, CROSS = 6;
        private static final int BITS = 8;
        private static final int MOST_AT_ONCE = 4;

        private final Input made = new Input();
        private final Input mate = new Input();

        /** x and y are not below 0. */
        void apply(Input input, Shelf pool, int kind, int x, int y) {
            int n = Math.max(input.size(), 0);
            if (kind == INSERT) {
                insert(input, x % (n + 1), y % Input.BYTES);
            } else if (kind == CROSS) {
                cross(input, pool, x % (n + 1), y);
            } else if (n > 0) {
                changeAt(input, kind, x % n, y);
            }
        }

        private void insert(Input input, int place, int b) {
            made.shorten(0);
            made.appendPart(input, 0, place);
            made.append(b);
            made.appendPart(input, place, Input.MOST);
            input.copy(made);
        }

        private void cross(Input input, Shelf pool, int place, int y) {
            if (pool.size() <= 0) {
                return;
            }
            pool.copyTo(y % pool.size(), mate);
            input.shorten(place);
            input.appendPart(mate, place, Input.MOST);
        }

        private void changeAt(Input input, int kind, int m, int y) {
            int old = input.get(m);
            int end = m + 1 + y % MOST_AT_ONCE;
            switch (kind) {
                case TURN_BIT:
                    input.put(m, old ^ 1 << y % BITS);
                    break;
                case SET_BYTE:
                    input.put(m, y % Input.BYTES);
                    break;
                case DROP:
                    made.copyParts(input, m, end);
                    input.copy(made);
                    break;
                case REPEAT:
                    made.copyParts(input, end, m);
                    input.copy(made);
                    break;
                default:
                    input.put(m, (y % 2 == 1 ? old + 1 : old + Input.BYTES - 1) % Input.BYTES);
                    break;
            }
        }
    }

    /** Cuts the first input of a fault down to one of which nothing more can go. */
    private static final class Cutter {
        /** Far above what is needed: each round but the last takes a byte, or 1 of one, away. */
        private static final int MOST_ROUNDS = 1_000_000;
        /** To lessen a byte: 0, its half, 1 less, also where two of them are the same. */
        private static final int WAYS = 3;

        private final Input now = new Input();
        private final Input trial = new Input();
        private final Trace trace = new Trace();
        private int many = 0;

        Input result() {
            return now;
        }

        int runsMade() {
            return many;
        }

        void shrink(Program program, Faults faults, int f) {
            faults.firsts().copyTo(f, now);
            many = 0;
            boolean changed = true;
            for (int round = 0; round < MOST_ROUNDS && changed; round++) {
                changed = leaveOut(program, faults, f);
                for (int i = 0; i < now.size(); i++) {
                    changed |= lessen(program, faults, f, i);
                }
            }
        }

        private boolean leaveOut(Program program, Faults faults, int f) {
            boolean changed = false;
            for (int s = (now.size() + 1) / 2; s > 0; s /= 2) {
                int o = 0;
                // Each turn takes a byte away or goes a byte on: no more turns than bytes.
                for (int turn = 0; turn < Input.MOST && o < now.size(); turn++) {
                    trial.copyParts(now, o, o + s);
                    if (trialShows(program, faults, f)) {
                        changed = true;
                    } else {
                        o += s;
                    }
                }
            }
            return changed;
        }

        private boolean lessen(Program program, Faults faults, int f, int i) {
            boolean changed = false;
            int way = 0;
            // Each turn lessens the byte or goes on to the next way.
            for (int turn = 0; turn < WAYS * Input.BYTES && way < WAYS && now.get(i) > 0; turn++) {
                trial.copy(now);
                trial.put(i, lesser(now.get(i), way));
                if (trialShows(program, faults, f)) {
                    changed = true;
                    way = 0;
                } else {
                    way++;
                }
            }
            return changed;
        }

        private static int lesser(int old, int way) {
            if (way == 0) {
                return 0;
            }
            return way == 1 ? old / 2 : old - 1;
        }

        /** Runs the trial; if it has the fault it is what is cut further. */
        private boolean trialShows(Program program, Faults faults, int f) {
            trace.execute(program, trial);
            many++;
            if (!faults.matches(f, trace)) {
                return false;
            }
            now.copy(trial);
            return true;
        }
    }
}
