/** The sentences of the document's part 1 that name an edge: the ops, the verdict, the branches. */
public final class MachineEdgesTest {
    private static final int NONE = ShrinkBench.NONE;
    private static final int MIN = Integer.MIN_VALUE;
    private static final int MAX = Integer.MAX_VALUE;
    private static final Check check = new Check("MachineEdgesTest");

    public static void main(String[] args) {
        eightyInstructions();
        eightRegisters();
        intsThatWrap();
        sixteenPlacesInTheRow();
        upTo24Bytes();
        anyNumberIsSet();
        anyNumberIsCopied();
        divisionIsCut();
        divisionByZero();
        nextByte();
        byteAtAPlace();
        howManyBytes();
        noSuchPlaceInTheRow();
        lessThan();
        theSame();
        jumpsAreNoBranches();
        eightOpenCalls();
        behindTheInnermostCall();
        checkOfZero();
        endOfARun();
        beginningAndEnd();
        the400thInstruction();
        ahead401st();
        noInstructionAtC();
        openCallsOfAVerdict();
        branchNumbers();
        turnsAreOfOneRun();
        digitsOfTurns();
        check.end();
    }

    private static ShrinkBench ran(int[]... rows) {
        ShrinkBench x = Kit.with(rows);
        x.run();
        return x;
    }

    /** Looks at a run that is to end well behind so many instructions. */
    private static void endsWell(String what, ShrinkBench x, int steps) {
        tells(what, x, 0, NONE, 0, steps);
        check.due("called(0) of " + what, x.called(0), NONE);
    }

    private static void tells(String what, ShrinkBench x, int kind, int place, int calls, int steps) {
        check.due("told(0) of " + what, x.told(0), kind);
        check.due("told(1) of " + what, x.told(1), place);
        check.due("told(2) of " + what, x.told(2), calls);
        check.due("told(3) of " + what, x.told(3), steps);
    }

    private static void eightyInstructions() {
        check.by("numbered from 0 on (PLACES), 80 at most, each with an op and a, b, c");
        ShrinkBench x = new ShrinkBench();
        for (int place = 0; place < 80; place++) {
            check.due("code, at " + place, x.code(Kit.SET, place % 8, 1000 + place, 0), place);
        }
        check.due("code, the 81st", x.code(Kit.SET, 0, 0, 0), ShrinkBench.FULL);
        check.due("run()", x.run(), 0);
        endsWell("80 instructions", x, 80);
        check.due("register(7), by the last one", x.register(7), 1079);
        check.due("register(0)", x.register(0), 1072);
    }

    private static void eightRegisters() {
        check.by("7, ints that wrap, and a ROW of 16 ints, all 0 at first");
        int[][] rows = new int[8][];
        for (int r = 0; r < 8; r++) {
            rows[r] = Kit.in(Kit.SET, r, 100 + r, 0);
        }
        ShrinkBench x = ran(rows);
        for (int r = 0; r < 8; r++) {
            check.due("register(" + r + ")", x.register(r), 100 + r);
        }
        ShrinkBench y = Kit.with(Kit.in(Kit.ADD, 0, 7, 0), Kit.in(Kit.SET, 7, 5, 0), Kit.in(Kit.ADD, 1, 7, 0));
        for (int i = 0; i < 2; i++) {
            y.run();
            check.due("register(0), of the 0 at first", y.register(0), 0);
            check.due("register(1)", y.register(1), 5);
        }
    }

    /** What an op leaves in r0, of r0 and r1. */
    private static int reckoned(int op, int x, int y) {
        return ran(Kit.in(Kit.SET, 0, x, 0), Kit.in(Kit.SET, 1, y, 0), Kit.in(op, 0, 1, 0)).register(0);
    }

    private static void intsThatWrap() {
        check.by("7, ints that wrap");
        check.due("MAX + 1", reckoned(Kit.ADD, MAX, 1), MIN);
        check.due("MIN + -1", reckoned(Kit.ADD, MIN, -1), MAX);
        check.due("MIN - 1", reckoned(Kit.SUBTRACT, MIN, 1), MAX);
        check.due("MAX - -1", reckoned(Kit.SUBTRACT, MAX, -1), MIN);
        check.due("0 - MIN", reckoned(Kit.SUBTRACT, 0, MIN), MIN);
        check.due("MAX * 2", reckoned(Kit.MULTIPLY, MAX, 2), -2);
        check.due("MIN * -1", reckoned(Kit.MULTIPLY, MIN, -1), MIN);
        check.due("65536 * 65536", reckoned(Kit.MULTIPLY, 65536, 65536), 0);
    }

    /** Place i of the row is 100 + i when the first byte tells which place is read. */
    private static void sixteenPlacesInTheRow() {
        check.by("a ROW of 16 ints, all 0 at first");
        ShrinkBench x = Kit.with(
                Kit.in(Kit.SET, 1, 1, 0), Kit.in(Kit.SET, 2, 16, 0), Kit.in(Kit.SET, 4, 100, 0),
                Kit.in(Kit.STORE, 0, 4, 0), Kit.in(Kit.ADD, 0, 1, 0), Kit.in(Kit.ADD, 4, 1, 0),
                Kit.in(Kit.IF_LESS, 0, 2, 3), Kit.in(Kit.NEXT, 5, 0, 0), Kit.in(Kit.LOAD, 6, 5, 0));
        for (int i = 0; i < 16; i++) {
            check.due("run() that reads place " + i, Kit.run(x, i), 0);
            check.due("register(6)", x.register(6), 100 + i);
        }
        ShrinkBench y = Kit.with(
                Kit.in(Kit.SET, 1, 9, 0), Kit.in(Kit.NEXT, 5, 0, 0), Kit.in(Kit.LOAD, 6, 5, 0),
                Kit.in(Kit.STORE, 5, 1, 0), Kit.in(Kit.LOAD, 7, 5, 0));
        for (int i = 0; i < 32; i++) {
            check.due("run() that uses place " + i % 16, Kit.run(y, i % 16), 0);
            check.due("register(6), ahead of it", y.register(6), 0);
            check.due("register(7), behind it", y.register(7), 9);
        }
    }

    /** The sum of all bytes is r1, how many they are r2. */
    private static void upTo24Bytes() {
        check.by("An INPUT has 0 to 24 BYTES (0 .. 255) and is read from PLACE 0 on");
        ShrinkBench x = Kit.with(
                Kit.in(Kit.SET, 3, -1, 0), Kit.in(Kit.COUNT, 2, 0, 0), Kit.in(Kit.NEXT, 0, 0, 0),
                Kit.in(Kit.IF_SAME, 0, 3, 79), Kit.in(Kit.ADD, 1, 0, 0), Kit.in(Kit.JUMP, 0, 0, 2));
        for (int n = 0; n <= 24; n++) {
            int[] bytes = new int[n];
            java.util.Arrays.fill(bytes, n % 2 == 0 ? 255 : 0);
            check.due("run() of " + n + " bytes", Kit.run(x, bytes), 0);
            check.due("register(1)", x.register(1), n % 2 == 0 ? n * 255 : 0);
            check.due("register(2)", x.register(2), n);
        }
    }

    private static void anyNumberIsSet() {
        check.by("0 ra = b.");
        for (int number : new int[] {MIN, -1, 0, 1, 255, 256, MAX}) {
            ShrinkBench x = ran(Kit.in(Kit.SET, 7, number, 0));
            check.due("register(7)", x.register(7), number);
        }
    }

    private static void anyNumberIsCopied() {
        check.by("1 ra = rb.");
        for (int number : new int[] {MIN, -1, 0, 255, MAX}) {
            ShrinkBench x = ran(
                    Kit.in(Kit.SET, 7, number, 0), Kit.in(Kit.SET, 0, 9, 0), Kit.in(Kit.COPY, 0, 7, 0),
                    Kit.in(Kit.COPY, 7, 7, 0));
            check.due("register(0)", x.register(0), number);
            check.due("register(7), of itself", x.register(7), number);
        }
    }

    private static void divisionIsCut() {
        check.by("5 ra = ra / rb, cut toward 0 (of the least number by -1: itself)");
        int[][] rows = {
            // left, right, due
            {7, 2, 3}, {-7, 2, -3}, {7, -2, -3}, {-7, -2, 3}, {1, 2, 0}, {-1, 2, 0}, {1, -2, 0}, {0, -5, 0},
            {MIN, -1, MIN}, {MIN, 1, MIN}, {MIN, 2, -1073741824}, {MIN, MIN, 1}, {MAX, -1, -MAX}, {MAX, MIN, 0}};
        for (int[] row : rows) {
            check.due(row[0] + " / " + row[1], reckoned(Kit.DIVIDE, row[0], row[1]), row[2]);
        }
        ShrinkBench x = ran(Kit.in(Kit.SET, 4, -9, 0), Kit.in(Kit.DIVIDE, 4, 4, 0));
        check.due("register(4), by itself", x.register(4), 1);
    }

    private static void divisionByZero() {
        check.by("FAILS 1 if rb is 0");
        for (int number : new int[] {MIN, -1, 0, 1, MAX}) {
            ShrinkBench x = ran(
                    Kit.in(Kit.SET, 0, number, 0), Kit.in(Kit.DIVIDE, 0, 1, 0), Kit.in(Kit.SET, 2, 1, 0));
            tells(number + " / 0", x, 1, 1, 0, 2);
            check.due("register(0) stays", x.register(0), number);
            check.due("register(2), nothing more ran", x.register(2), 0);
        }
        tells("a register by itself, 0", ran(Kit.in(Kit.DIVIDE, 3, 3, 0)), 1, 0, 0, 1);
    }

    private static void nextByte() {
        check.by("6 ra = the next BYTE that was not read by this op (the first one at first), -1 behind the last");
        ShrinkBench x = Kit.with(
                Kit.in(Kit.PICK, 6, 7, 0), Kit.in(Kit.NEXT, 0, 0, 0), Kit.in(Kit.PICK, 6, 7, 0),
                Kit.in(Kit.NEXT, 1, 0, 0), Kit.in(Kit.NEXT, 2, 0, 0), Kit.in(Kit.NEXT, 3, 0, 0));
        Kit.run(x, 255, 0);
        int[] want = {255, 0, -1, -1, 0, 0, 255, 0};
        for (int r = 0; r < 8; r++) {
            check.due("register(" + r + ")", x.register(r), want[r]);
        }
        ShrinkBench none = ran(Kit.in(Kit.NEXT, 5, 0, 0), Kit.in(Kit.NEXT, 6, 0, 0));
        check.due("register(5), of no bytes", none.register(5), -1);
        check.due("register(6), of no bytes", none.register(6), -1);
        int[][] rows = new int[25][];
        for (int i = 0; i < 25; i++) {
            rows[i] = Kit.in(Kit.NEXT, i % 8, 0, 0);
        }
        ShrinkBench all = Kit.with(rows);
        Kit.run(all, 1, 2, 3, 4, 5, 6, 7, 8, 9, 10, 11, 12, 13, 14, 15, 16, 17, 18, 19, 20, 21, 22, 23, 24);
        check.due("register(7), the 24th", all.register(7), 24);
        check.due("register(0), behind the 24th", all.register(0), -1);
    }

    private static void byteAtAPlace() {
        check.by("7 ra = BYTE rb; FAILS 2 if there is none");
        int[] full = new int[24];
        java.util.Arrays.fill(full, 200);
        int[][] inputs = {{}, {201}, {202, 203}, full};
        for (int[] input : inputs) {
            for (int i : new int[] {MIN, -1, 0, 1, 2, 23, 24, MAX}) {
                ShrinkBench x = Kit.with(
                        Kit.in(Kit.SET, 7, i, 0), Kit.in(Kit.SET, 6, -5, 0), Kit.in(Kit.PICK, 6, 7, 0));
                boolean there = i >= 0 && i < input.length;
                String what = "byte " + i + " of " + input.length;
                Kit.run(x, input);
                tells(what, x, there ? 0 : 2, there ? NONE : 2, 0, 3);
                check.due("register(6), " + what, x.register(6), there ? input[i] : -5);
            }
        }
        ShrinkBench same = Kit.with(Kit.in(Kit.PICK, 0, 0, 0));
        Kit.run(same, 99);
        check.due("register(0), by its own number", same.register(0), 99);
    }

    private static void howManyBytes() {
        check.by("8 ra = how many BYTES.");
        ShrinkBench x = Kit.with(Kit.in(Kit.NEXT, 0, 0, 0), Kit.in(Kit.COUNT, 7, 0, 0));
        for (int n = 0; n <= 24; n++) {
            Kit.run(x, new int[n]);
            check.due("register(7), of " + n + " bytes", x.register(7), n);
        }
    }

    private static void noSuchPlaceInTheRow() {
        check.by("9 ROW at ra = rb; 10 ra = ROW at rb; FAIL 2 if there is no such place in the ROW");
        for (int i : new int[] {MIN, -16, -1, 0, 15, 16, 17, MAX}) {
            boolean there = i >= 0 && i <= 15;
            ShrinkBench x = ran(
                    Kit.in(Kit.SET, 0, i, 0), Kit.in(Kit.SET, 1, 77, 0), Kit.in(Kit.STORE, 0, 1, 0));
            tells("op 9 at " + i, x, there ? 0 : 2, there ? NONE : 2, 0, 3);
            check.due("register(0), op 9", x.register(0), i);
            ShrinkBench y = ran(
                    Kit.in(Kit.SET, 0, i, 0), Kit.in(Kit.SET, 1, 77, 0), Kit.in(Kit.LOAD, 1, 0, 0));
            tells("op 10 at " + i, y, there ? 0 : 2, there ? NONE : 2, 0, 3);
            check.due("register(1), op 10", y.register(1), there ? 0 : 77);
        }
    }

    /** Whether an op 11 or 12 on two numbers goes to its place, as the branch that it was tells. */
    private static void goes(int op, int left, int right, boolean want) {
        ShrinkBench x = ran(
                Kit.in(Kit.SET, 0, left, 0), Kit.in(Kit.SET, 1, right, 0), Kit.in(op, 0, 1, 4),
                Kit.in(Kit.SET, 2, 1, 0), Kit.in(Kit.END, 0, 0, 0));
        String what = " of op " + op + " on " + left + ", " + right;
        check.due("turns(5)" + what, x.turns(5), want ? 1 : 0);
        check.due("turns(4)" + what, x.turns(4), want ? 0 : 1);
        check.due("register(2)" + what, x.register(2), want ? 0 : 1);
        check.due("told(3)" + what, x.told(3), want ? 4 : 5);
    }

    private static void lessThan() {
        check.by("11 to PLACE c if ra is less than rb.");
        goes(Kit.IF_LESS, 4, 5, true);
        goes(Kit.IF_LESS, 5, 5, false);
        goes(Kit.IF_LESS, 6, 5, false);
        goes(Kit.IF_LESS, -1, 0, true);
        goes(Kit.IF_LESS, MIN, 1, true);
        goes(Kit.IF_LESS, MIN, MAX, true);
        goes(Kit.IF_LESS, MAX, MIN, false);
        goes(Kit.IF_LESS, 1, MIN, false);
        goes(Kit.IF_LESS, MIN, MIN, false);
    }

    private static void theSame() {
        check.by("12 to PLACE c if ra is rb.");
        goes(Kit.IF_SAME, 5, 5, true);
        goes(Kit.IF_SAME, 4, 5, false);
        goes(Kit.IF_SAME, 6, 5, false);
        goes(Kit.IF_SAME, MIN, MIN, true);
        goes(Kit.IF_SAME, 1000, 1000, true);
        goes(Kit.IF_SAME, MIN, MAX, false);
        goes(Kit.IF_SAME, 0, MIN, false);
    }

    private static void jumpsAreNoBranches() {
        check.by("A BRANCH is an op 11, 12 with whether it went to c");
        ShrinkBench x = ran(
                Kit.in(Kit.JUMP, 0, 0, 2), Kit.in(Kit.END, 0, 0, 0), Kit.in(Kit.CALL, 0, 0, 4),
                Kit.in(Kit.JUMP, 0, 0, 1), Kit.in(Kit.RETURN, 0, 0, 0));
        endsWell("ops 13, 14, 15, 17", x, 5);
        check.due("told(4), no branch", x.told(4), 0);
        for (int branch = 0; branch < 10; branch++) {
            check.due("turns(" + branch + ")", x.turns(branch), 0);
        }
    }

    private static void eightOpenCalls() {
        check.by("14 CALL: to PLACE c; FAILS 3 if 8 CALLS are open.");
        ShrinkBench self = ran(Kit.in(Kit.CALL, 0, 0, 0));
        tells("a call of itself", self, 3, 0, 8, 9);
        for (int depth = 7; depth <= 9; depth++) {
            int[][] rows = new int[depth + 1][];
            for (int place = 0; place < depth; place++) {
                rows[place] = Kit.in(Kit.CALL, 0, 0, place + 1);
            }
            rows[depth] = Kit.in(Kit.CHECK, 0, 0, 0);
            ShrinkBench x = ran(rows);
            int open = Math.min(depth, 8);
            tells(depth + " calls", x, depth > 8 ? 3 : 4, open, open, open + 1);
        }
        int[][] oneByOne = new int[22][];
        for (int place = 0; place < 20; place++) {
            oneByOne[place] = Kit.in(Kit.CALL, 0, 0, 21);
        }
        oneByOne[20] = Kit.in(Kit.END, 0, 0, 0);
        oneByOne[21] = Kit.in(Kit.RETURN, 0, 0, 0);
        endsWell("20 calls, one open at a time", ran(oneByOne), 41);
        ShrinkBench nowhere = ran(
                Kit.in(Kit.CALL, 0, 0, 1), Kit.in(Kit.CALL, 0, 0, 2), Kit.in(Kit.CALL, 0, 0, 3),
                Kit.in(Kit.CALL, 0, 0, 4), Kit.in(Kit.CALL, 0, 0, 5), Kit.in(Kit.CALL, 0, 0, 6),
                Kit.in(Kit.CALL, 0, 0, 7), Kit.in(Kit.CALL, 0, 0, 8), Kit.in(Kit.CALL, 0, 0, 79));
        tells("a ninth call, to nowhere", nowhere, 3, 8, 8, 9);
    }

    private static void behindTheInnermostCall() {
        check.by("15 behind the innermost open CALL, which is open no more; ends well if there is none.");
        ShrinkBench x = ran(
                Kit.in(Kit.CALL, 0, 0, 3), Kit.in(Kit.SET, 1, 1, 0), Kit.in(Kit.RETURN, 0, 0, 0),
                Kit.in(Kit.CALL, 0, 0, 6), Kit.in(Kit.SET, 2, 1, 0), Kit.in(Kit.RETURN, 0, 0, 0),
                Kit.in(Kit.SET, 3, 1, 0), Kit.in(Kit.RETURN, 0, 0, 0));
        endsWell("two calls and three returns", x, 8);
        for (int r = 1; r <= 3; r++) {
            check.due("register(" + r + ")", x.register(r), 1);
        }
        ShrinkBench open = ran(
                Kit.in(Kit.CALL, 0, 0, 2), Kit.in(Kit.CHECK, 0, 0, 0), Kit.in(Kit.CALL, 0, 0, 4),
                Kit.in(Kit.DIVIDE, 0, 0, 0), Kit.in(Kit.RETURN, 0, 0, 0));
        tells("a failure behind a return", open, 1, 3, 1, 4);
        check.due("called(0)", open.called(0), 0);
        check.due("called(1)", open.called(1), NONE);
        endsWell("a return from no call", ran(Kit.in(Kit.RETURN, 0, 0, 0), Kit.in(Kit.CHECK, 0, 0, 0)), 1);
        ShrinkBench last = ran(
                Kit.in(Kit.JUMP, 0, 0, 2), Kit.in(Kit.RETURN, 0, 0, 0), Kit.in(Kit.CALL, 0, 0, 1));
        endsWell("a return behind the last one", last, 3);
    }

    private static void checkOfZero() {
        check.by("16 FAILS 4 if ra is 0.");
        for (int number : new int[] {MIN, -1, 0, 1, 256, MAX}) {
            ShrinkBench x = ran(Kit.in(Kit.SET, 7, number, 0), Kit.in(Kit.CHECK, 7, 0, 0), Kit.in(Kit.END, 0, 0, 0));
            boolean fails = number == 0;
            tells("a check of " + number, x, fails ? 4 : 0, fails ? 1 : NONE, 0, fails ? 2 : 3);
        }
    }

    private static void endOfARun() {
        check.by("17 ends well.");
        endsWell("an end", ran(Kit.in(Kit.END, 0, 0, 0), Kit.in(Kit.CHECK, 0, 0, 0)), 1);
        ShrinkBench inACall = ran(Kit.in(Kit.CALL, 0, 0, 2), Kit.in(Kit.CHECK, 0, 0, 0), Kit.in(Kit.END, 0, 0, 0));
        endsWell("an end in a call", inACall, 2);
    }

    private static void beginningAndEnd() {
        check.by("It begins at PLACE 0; behind an INSTRUCTION comes the next one but where told;"
                + " behind the last one it ends well.");
        ShrinkBench none = new ShrinkBench();
        check.due("run() of no instructions", none.run(), 0);
        endsWell("no instructions", none, 0);
        ShrinkBench one = ran(Kit.in(Kit.SET, 0, 3, 0));
        endsWell("one instruction", one, 1);
        check.due("register(0)", one.register(0), 3);
        ShrinkBench open = ran(Kit.in(Kit.CALL, 0, 0, 1), Kit.in(Kit.SET, 0, 3, 0));
        endsWell("the last one in a call", open, 2);
    }

    /** 399 instructions run ahead of the told ones, which begin at place 5; r7 is 0 and r1 is 1. */
    private static ShrinkBench behind399(int[]... rows) {
        ShrinkBench x = Kit.with(
                Kit.in(Kit.SET, 1, 1, 0), Kit.in(Kit.SET, 2, 2, 0), Kit.in(Kit.NEXT, 0, 0, 0),
                Kit.in(Kit.SUBTRACT, 0, 1, 0), Kit.in(Kit.IF_LESS, 7, 0, 3));
        Kit.load(x, rows);
        Kit.run(x, 198);
        return x;
    }

    private static void the400thInstruction() {
        check.by("It FAILS 5 ahead of its 401st INSTRUCTION.");
        int[] untrue = Kit.in(Kit.CHECK, 7, 0, 0);
        endsWell("399 instructions", behind399(), 399);
        endsWell("400 instructions", behind399(Kit.in(Kit.SET, 0, 0, 0)), 400);
        endsWell("an end as the 400th", behind399(Kit.in(Kit.END, 0, 0, 0), untrue), 400);
        endsWell("a return as the 400th", behind399(Kit.in(Kit.RETURN, 0, 0, 0), untrue), 400);
        endsWell("a jump to nowhere as the 400th", behind399(Kit.in(Kit.JUMP, 0, 0, 79), untrue), 400);
        endsWell("a call to nowhere as the 400th", behind399(Kit.in(Kit.CALL, 0, 0, 79), untrue), 400);
        endsWell("a branch to nowhere as the 400th", behind399(Kit.in(Kit.IF_SAME, 7, 7, 79), untrue), 400);
        tells("a check as the 400th", behind399(untrue, untrue), 4, 5, 0, 400);
        tells("a division as the 400th", behind399(Kit.in(Kit.DIVIDE, 1, 7, 0), untrue), 1, 5, 0, 400);
    }

    private static void ahead401st() {
        check.by("a KIND 1 .. 5 with the PLACE of the INSTRUCTION (of 5 of the one that would be next)");
        int[] set = Kit.in(Kit.SET, 6, 1, 0);
        ShrinkBench x = behind399(set, set);
        tells("401 instructions", x, 5, 6, 0, 400);
        check.due("register(6), of the 400th", x.register(6), 1);
        tells("an end as the 401st", behind399(set, Kit.in(Kit.END, 0, 0, 0)), 5, 6, 0, 400);
        tells("a check as the 401st", behind399(set, Kit.in(Kit.CHECK, 7, 0, 0)), 5, 6, 0, 400);
        tells("a jump back as the 400th", behind399(Kit.in(Kit.JUMP, 0, 0, 0)), 5, 0, 0, 400);
        ShrinkBench call = behind399(Kit.in(Kit.CALL, 0, 0, 2));
        tells("a call as the 400th", call, 5, 2, 1, 400);
        check.due("called(0)", call.called(0), 5);
        ShrinkBench self = ran(Kit.in(Kit.JUMP, 0, 0, 0));
        tells("a jump to itself", self, 5, 0, 0, 400);
    }

    private static void noInstructionAtC() {
        check.by("A c at which there is no INSTRUCTION when it runs: it ends well there.");
        for (int op : new int[] {Kit.IF_LESS, Kit.IF_SAME, Kit.JUMP, Kit.CALL}) {
            boolean branches = op == Kit.IF_LESS || op == Kit.IF_SAME;
            for (int c : new int[] {3, 4, 79}) {
                ShrinkBench x = ran(
                        Kit.in(Kit.SET, 1, op == Kit.IF_LESS ? 1 : 0, 0),
                        Kit.in(op, 0, branches ? 1 : 0, c), Kit.in(Kit.CHECK, 7, 0, 0));
                endsWell("op " + op + " to " + c, x, 2);
                check.due("turns(3) of op " + op, x.turns(3), branches ? 1 : 0);
            }
            ShrinkBench y = ran(
                    Kit.in(Kit.SET, 1, op == Kit.IF_LESS ? 1 : 0, 0),
                    Kit.in(op, 0, branches ? 1 : 0, 3), Kit.in(Kit.CHECK, 7, 0, 0));
            check.due("code at the c that was none", y.code(Kit.DIVIDE, 0, 0, 0), 3);
            check.due("run(), now that there is one", y.run(), 1);
            tells("op " + op + " to what came later", y, 1, 3, op == Kit.CALL ? 1 : 0, 3);
        }
    }

    private static void openCallsOfAVerdict() {
        check.by("the CALLS that are open, the innermost first, by their PLACES");
        ShrinkBench x = ran(
                Kit.in(Kit.CALL, 0, 0, 3), Kit.in(Kit.CHECK, 0, 0, 0), Kit.in(Kit.CALL, 0, 0, 1),
                Kit.in(Kit.SET, 1, 1, 0), Kit.in(Kit.CALL, 0, 0, 2));
        tells("three calls", x, 4, 1, 3, 5);
        int[] want = {2, 4, 0, NONE};
        for (int i = 0; i < 4; i++) {
            check.due("called(" + i + ")", x.called(i), want[i]);
        }
        ShrinkBench none = ran(Kit.in(Kit.CHECK, 0, 0, 0));
        tells("no calls", none, 4, 0, 0, 1);
        check.due("called(0), of none", none.called(0), NONE);
    }

    private static void branchNumbers() {
        check.by("numbered 2 * PLACE, and 1 more if it did");
        ShrinkBench first = ran(Kit.in(Kit.IF_SAME, 0, 0, 1), Kit.in(Kit.IF_LESS, 0, 0, 0));
        check.due("turns(0)", first.turns(0), 0);
        check.due("turns(1), it went to the next place", first.turns(1), 1);
        check.due("turns(2)", first.turns(2), 1);
        check.due("turns(3)", first.turns(3), 0);
        check.due("told(4)", first.told(4), 2);
        ShrinkBench zero = ran(Kit.in(Kit.IF_LESS, 0, 0, 0));
        check.due("turns(0), the least branch", zero.turns(0), 1);
        check.due("turns(1)", zero.turns(1), 0);
        check.due("told(4)", zero.told(4), 1);
        for (int last = 0; last < 2; last++) {
            ShrinkBench x = new ShrinkBench();
            for (int place = 0; place < 79; place++) {
                x.code(Kit.SET, 0, last, 0);
            }
            check.due("code at 79", x.code(Kit.IF_SAME, 0, 1, 78), 79);
            check.due("run()", x.run(), last == 0 ? 5 : 0);
            check.due("turns(159)", x.turns(159), last == 0 ? 161 : 0);
            check.due("turns(158)", x.turns(158), last == 0 ? 0 : 1);
            check.due("told(4)", x.told(4), 1);
        }
    }

    private static void turnsAreOfOneRun() {
        check.by("Its TURNS in a run: how often it was.");
        ShrinkBench x = Machines.countdown(0);
        for (int b : new int[] {5, 1, 2, 199, 0}) {
            Kit.run(x, b);
            check.due("turns(7) of " + b, x.turns(7), Math.max(b - 1, 0));
            check.due("turns(6) of " + b, x.turns(6), 1);
            check.due("told(4) of " + b, x.told(4), b > 1 ? 2 : 1);
        }
        Kit.run(x, 200);
        check.due("turns(7), without its end", x.turns(7), 199);
        check.due("turns(6), without its end", x.turns(6), 0);
    }

    /** A branch that goes to itself takes what the instructions ahead of it leave of the 400. */
    private static void digitsOfTurns() {
        check.by("A REACH is a BRANCH and the number of binary digits of its TURNS.");
        int[][] rows = {
            // turns, digits
            {1, 1}, {2, 2}, {3, 2}, {4, 3}, {7, 3}, {8, 4}, {15, 4}, {16, 5}, {31, 5}, {32, 6}, {63, 6}, {64, 7},
            {127, 7}, {128, 8}, {255, 8}, {256, 9}, {390, 9}};
        for (int[] row : rows) {
            ShrinkBench x = selfLoop(row[0]);
            check.due("attempt(0)", x.attempt(0), 3);
            int branch = 2 * x.told(1) + 1;
            check.due("turns(" + branch + ")", x.turns(branch), row[0]);
            for (int d = 1; d <= 9; d++) {
                String what = "covered, " + row[0] + " turns, " + d + " digits";
                check.due(what, x.covered(0, branch, d), d == row[1] ? 1 : 0);
            }
        }
        ShrinkBench whole = Kit.with(Kit.in(Kit.IF_SAME, 0, 0, 0));
        whole.attempt(0);
        check.due("turns(1), the most there are", whole.turns(1), 400);
        check.due("covered(0, 1, 9)", whole.covered(0, 1, 9), 1);
    }

    /** 400 - turns instructions, an even part of them in a countdown, then a branch to itself. */
    private static ShrinkBench selfLoop(int turns) {
        int ahead = 400 - turns;
        ShrinkBench x = Kit.with(
                Kit.in(Kit.SET, 1, 1, 0), Kit.in(Kit.SET, 0, (ahead - 2) / 2, 0),
                Kit.in(Kit.SUBTRACT, 0, 1, 0), Kit.in(Kit.IF_LESS, 7, 0, 2));
        if (ahead % 2 == 1) {
            Kit.load(x, Kit.in(Kit.SET, 2, 2, 0));
        }
        int place = 4 + ahead % 2;
        Kit.load(x, Kit.in(Kit.IF_SAME, 7, 7, place));
        return x;
    }
}
