/** The ops, and promises 10 to 14: run, told, called, register, turns. */
public final class RunTest {
    private static final int NONE = ShrinkBench.NONE;
    private static final int MIN = Integer.MIN_VALUE;
    private static final int MAX = Integer.MAX_VALUE;
    private static final Check check = new Check("RunTest");

    public static void main(String[] args) {
        reckoning();
        division();
        readingBytes();
        theRow();
        runsStartAnew();
        jumps();
        calls();
        callsToNowhere();
        tooManyCalls();
        checksAndEnds();
        tooManyInstructions();
        branchesAndTurns();
        refusalsOfTheLatestRun();
        latestRunIsOfRunAndAttemptOnly();
        check.end();
    }

    /** r0 = x, r1 = y, then op on them; r0 at the end. */
    private static int reckoned(int op, int x, int y) {
        ShrinkBench s = Kit.with(Kit.in(Kit.SET, 0, x, 0), Kit.in(Kit.SET, 1, y, 0), Kit.in(op, 0, 1, 0));
        check.due("run()", s.run(), 0);
        check.due("told(3)", s.told(3), 3);
        check.due("register(1)", s.register(1), y);
        return s.register(0);
    }

    private static void reckoning() {
        int[][] pairs = {{3, 4}, {-3, 4}, {MAX, 1}, {MIN, -1}, {MIN, MIN}, {65536, 65537}, {0, 7}};
        for (int[] p : pairs) {
            String of = " of " + p[0] + ", " + p[1];
            check.due("copy" + of, reckoned(Kit.COPY, p[0], p[1]), p[1]);
            check.due("sum" + of, reckoned(Kit.ADD, p[0], p[1]), p[0] + p[1]);
            check.due("difference" + of, reckoned(Kit.SUBTRACT, p[0], p[1]), p[0] - p[1]);
            check.due("product" + of, reckoned(Kit.MULTIPLY, p[0], p[1]), p[0] * p[1]);
        }
        ShrinkBench s = Kit.with(Kit.in(Kit.SET, 7, MIN, 0), Kit.in(Kit.ADD, 7, 7, 0));
        s.run();
        check.due("register(7), added to itself", s.register(7), 0);
    }

    private static void division() {
        check.due("7 / 2", reckoned(Kit.DIVIDE, 7, 2), 3);
        check.due("-7 / 2", reckoned(Kit.DIVIDE, -7, 2), -3);
        check.due("7 / -2", reckoned(Kit.DIVIDE, 7, -2), -3);
        check.due("MIN / -1", reckoned(Kit.DIVIDE, MIN, -1), MIN);
        check.due("0 / 5", reckoned(Kit.DIVIDE, 0, 5), 0);
        ShrinkBench s = Kit.with(Kit.in(Kit.SET, 2, 9, 0), Kit.in(Kit.DIVIDE, 2, 3, 0), Kit.in(Kit.SET, 4, 1, 0));
        check.due("run() of a division by 0", s.run(), 1);
        tellsFailure(s, 1, 1, 0, 2);
        check.due("register(2)", s.register(2), 9);
        check.due("register(4)", s.register(4), 0);
    }

    private static void readingBytes() {
        ShrinkBench s = Kit.with(
                Kit.in(Kit.NEXT, 0, 0, 0), Kit.in(Kit.SET, 7, 1, 0), Kit.in(Kit.PICK, 1, 7, 0),
                Kit.in(Kit.NEXT, 2, 0, 0), Kit.in(Kit.NEXT, 3, 0, 0), Kit.in(Kit.NEXT, 4, 0, 0),
                Kit.in(Kit.COUNT, 5, 0, 0));
        check.due("run()", Kit.run(s, 200, 0), 0);
        int[] want = {200, 0, 0, -1, -1, 2, 0, 1};
        for (int r = 0; r < 8; r++) {
            check.due("register(" + r + ")", s.register(r), want[r]);
        }
        check.due("run() of one byte", Kit.run(s, 200), 2);
        tellsFailure(s, 2, 2, 0, 3);
        for (int i : new int[] {-1, 0, 2, 3, 24, MIN, MAX}) {
            ShrinkBench t = Kit.with(Kit.in(Kit.SET, 7, i, 0), Kit.in(Kit.PICK, 6, 7, 0));
            boolean there = i >= 0 && i < 3;
            check.due("run() of byte " + i, Kit.run(t, 7, 8, 9), there ? 0 : 2);
            check.due("register(6)", t.register(6), there ? 7 + i : 0);
        }
        ShrinkBench none = Kit.with(Kit.in(Kit.COUNT, 5, 0, 0), Kit.in(Kit.NEXT, 5, 0, 0));
        none.run();
        check.due("register(5), no byte", none.register(5), -1);
    }

    private static void theRow() {
        for (int i : new int[] {MIN, -1, 0, 7, 15, 16, 17, MAX}) {
            boolean there = i >= 0 && i < 16;
            ShrinkBench s = Kit.with(
                    Kit.in(Kit.SET, 0, i, 0), Kit.in(Kit.SET, 1, -5, 0), Kit.in(Kit.STORE, 0, 1, 0),
                    Kit.in(Kit.LOAD, 2, 0, 0));
            check.due("run() of row place " + i, s.run(), there ? 0 : 2);
            check.due("told(1)", s.told(1), there ? NONE : 2);
            check.due("register(2)", s.register(2), there ? -5 : 0);
            ShrinkBench t = Kit.with(Kit.in(Kit.SET, 3, i, 0), Kit.in(Kit.SET, 2, 6, 0), Kit.in(Kit.LOAD, 2, 3, 0));
            check.due("run() of row place " + i, t.run(), there ? 0 : 2);
            check.due("told(1)", t.told(1), there ? NONE : 2);
            check.due("register(2)", t.register(2), there ? 0 : 6);
        }
    }

    private static void runsStartAnew() {
        ShrinkBench s = Kit.with(
                Kit.in(Kit.LOAD, 5, 0, 0), Kit.in(Kit.NEXT, 1, 0, 0), Kit.in(Kit.ADD, 2, 1, 0),
                Kit.in(Kit.STORE, 0, 1, 0), Kit.in(Kit.IF_SAME, 3, 3, 6), Kit.in(Kit.END, 0, 0, 0),
                Kit.in(Kit.CALL, 0, 0, 7), Kit.in(Kit.CHECK, 3, 0, 0));
        for (int i = 0; i < 2; i++) {
            check.due("run()", Kit.run(s, 11), 4);
            check.due("register(5), from the row", s.register(5), 0);
            check.due("register(1), the first byte", s.register(1), 11);
            check.due("register(2)", s.register(2), 11);
            check.due("turns(9)", s.turns(9), 1);
            check.due("told(2)", s.told(2), 1);
            check.due("told(3)", s.told(3), 7);
            check.due("told(4)", s.told(4), 1);
        }
        s.wipe();
        check.due("run() of nothing", s.run(), 0);
        check.due("told(1)", s.told(1), NONE);
        check.due("told(2)", s.told(2), 0);
        check.due("told(3)", s.told(3), 0);
        check.due("told(4)", s.told(4), 0);
        check.due("called(0)", s.called(0), NONE);
        check.due("register(1)", s.register(1), 0);
        check.due("turns(9)", s.turns(9), 0);
    }

    /** Whether an op 11 or 12 on x and y goes to its place. */
    private static void jumpOn(int op, int x, int y, boolean goes) {
        ShrinkBench s = Kit.with(
                Kit.in(Kit.SET, 0, x, 0), Kit.in(Kit.SET, 1, y, 0), Kit.in(op, 0, 1, 5),
                Kit.in(Kit.SET, 2, 1, 0), Kit.in(Kit.END, 0, 0, 0), Kit.in(Kit.SET, 2, 2, 0));
        check.due("run()", s.run(), 0);
        check.due("register(2) of op " + op + " on " + x + ", " + y, s.register(2), goes ? 2 : 1);
        check.due("turns(4)", s.turns(4), goes ? 0 : 1);
        check.due("turns(5)", s.turns(5), goes ? 1 : 0);
        check.due("told(3)", s.told(3), goes ? 4 : 5);
        check.due("told(4)", s.told(4), 1);
    }

    private static void jumps() {
        jumpOn(Kit.IF_LESS, 1, 2, true);
        jumpOn(Kit.IF_LESS, 2, 2, false);
        jumpOn(Kit.IF_LESS, 3, 2, false);
        jumpOn(Kit.IF_LESS, MIN, MAX, true);
        jumpOn(Kit.IF_LESS, MAX, MIN, false);
        jumpOn(Kit.IF_SAME, 2, 2, true);
        jumpOn(Kit.IF_SAME, 1, 2, false);
        jumpOn(Kit.IF_SAME, 3, 2, false);
        ShrinkBench s = Kit.with(Kit.in(Kit.JUMP, 0, 0, 2), Kit.in(Kit.CHECK, 0, 0, 0), Kit.in(Kit.JUMP, 0, 0, 3));
        check.due("run() of a jump behind the last", s.run(), 0);
        check.due("told(3)", s.told(3), 2);
        check.due("told(4), no branch", s.told(4), 0);
        ShrinkBench t = Kit.with(Kit.in(Kit.IF_SAME, 0, 0, 79), Kit.in(Kit.CHECK, 0, 0, 0));
        check.due("run() of a branch to nowhere", t.run(), 0);
        check.due("turns(1)", t.turns(1), 1);
    }

    private static void calls() {
        ShrinkBench s = Kit.with(
                Kit.in(Kit.CALL, 0, 0, 3), Kit.in(Kit.CALL, 0, 0, 3), Kit.in(Kit.RETURN, 0, 0, 0),
                Kit.in(Kit.SET, 1, 5, 0), Kit.in(Kit.CALL, 0, 0, 6), Kit.in(Kit.RETURN, 0, 0, 0),
                Kit.in(Kit.ADD, 2, 1, 0), Kit.in(Kit.NEXT, 3, 0, 0), Kit.in(Kit.CHECK, 3, 0, 0),
                Kit.in(Kit.RETURN, 0, 0, 0));
        check.due("run()", Kit.run(s, 1, 1), 0);
        check.due("register(2)", s.register(2), 10);
        check.due("told(3)", s.told(3), 17);
        check.due("told(1)", s.told(1), NONE);
        check.due("run()", Kit.run(s, 1, 0), 4);
        tellsFailure(s, 4, 8, 2, 14);
        check.due("called(0)", s.called(0), 4);
        check.due("called(1)", s.called(1), 1);
        check.due("called(2)", s.called(2), NONE);
        check.due("called(-1)", s.called(-1), NONE);
        check.due("called(MIN)", s.called(MIN), NONE);
        check.due("called(MAX)", s.called(MAX), NONE);
        check.due("run()", Kit.run(s, 0), 4);
        check.due("called(1)", s.called(1), 0);
    }

    private static void callsToNowhere() {
        ShrinkBench s = Kit.with(Kit.in(Kit.CALL, 0, 0, 40), Kit.in(Kit.CHECK, 0, 0, 0));
        check.due("run() of a call to nowhere", s.run(), 0);
        check.due("told(2), it ended well", s.told(2), 0);
        check.due("called(0), it ended well", s.called(0), NONE);
        check.due("told(3)", s.told(3), 1);
        ShrinkBench t = Kit.with(Kit.in(Kit.CALL, 0, 0, 1), Kit.in(Kit.END, 0, 0, 0));
        check.due("run() of an end in a call", t.run(), 0);
        check.due("told(2), it ended well", t.told(2), 0);
        check.due("called(0), it ended well", t.called(0), NONE);
        ShrinkBench u = Kit.with(
                Kit.in(Kit.JUMP, 0, 0, 2), Kit.in(Kit.RETURN, 0, 0, 0), Kit.in(Kit.CALL, 0, 0, 1));
        check.due("run() back behind the last", u.run(), 0);
        check.due("told(3)", u.told(3), 3);
    }

    private static void tooManyCalls() {
        int[][] rows = new int[10][];
        for (int place = 0; place < 9; place++) {
            rows[place] = Kit.in(Kit.CALL, 0, 0, place + 1);
        }
        rows[9] = Kit.in(Kit.END, 0, 0, 0);
        ShrinkBench s = Kit.with(rows);
        check.due("run() of nine calls", s.run(), 3);
        tellsFailure(s, 3, 8, 8, 9);
        for (int i = 0; i < 8; i++) {
            check.due("called(" + i + ")", s.called(i), 7 - i);
        }
        check.due("called(8)", s.called(8), NONE);
        rows[8] = Kit.in(Kit.CHECK, 0, 0, 0);
        ShrinkBench t = Kit.with(rows);
        check.due("run() of eight calls", t.run(), 4);
        tellsFailure(t, 4, 8, 8, 9);
    }

    private static void checksAndEnds() {
        for (int number : new int[] {MIN, -1, 0, 1, MAX}) {
            ShrinkBench s = Kit.with(Kit.in(Kit.SET, 6, number, 0), Kit.in(Kit.CHECK, 6, 0, 0), Kit.in(Kit.END, 0, 0, 0));
            check.due("run() of a check of " + number, s.run(), number == 0 ? 4 : 0);
            check.due("told(3)", s.told(3), number == 0 ? 2 : 3);
        }
        ShrinkBench e = Kit.with(Kit.in(Kit.END, 0, 0, 0), Kit.in(Kit.CHECK, 0, 0, 0));
        check.due("run() of an end", e.run(), 0);
        check.due("told(3)", e.told(3), 1);
        ShrinkBench r = Kit.with(Kit.in(Kit.RETURN, 0, 0, 0), Kit.in(Kit.CHECK, 0, 0, 0));
        check.due("run() of a return from no call", r.run(), 0);
        check.due("told(3)", r.told(3), 1);
    }

    private static void tooManyInstructions() {
        ShrinkBench s = Machines.countdown(0);
        check.due("run() of 400 instructions, and no other", Kit.run(s, 199), 0);
        check.due("told(3)", s.told(3), 400);
        check.due("turns(7)", s.turns(7), 198);
        check.due("turns(6)", s.turns(6), 1);
        check.due("run() of 402", Kit.run(s, 200), 5);
        tellsFailure(s, 5, 2, 0, 400);
        ShrinkBench t = Machines.countdown(1);
        check.due("run() of 401 instructions", Kit.run(t, 199), 5);
        tellsFailure(t, 5, 4, 0, 400);
        check.due("register(2)", t.register(2), 0);
        ShrinkBench u = Kit.with(Kit.in(Kit.CALL, 0, 0, 2), Kit.in(Kit.END, 0, 0, 0), Kit.in(Kit.JUMP, 0, 0, 3), Kit.in(Kit.JUMP, 0, 0, 2));
        check.due("run() without end", u.run(), 5);
        tellsFailure(u, 5, 3, 1, 400);
        check.due("called(0)", u.called(0), 0);
        ShrinkBench v = Kit.with(Kit.in(Kit.IF_SAME, 0, 0, 0));
        check.due("run() of one branch without end", v.run(), 5);
        check.due("turns(1)", v.turns(1), 400);
    }

    private static void branchesAndTurns() {
        int[][] rows = new int[80][];
        for (int place = 0; place < 80; place++) {
            rows[place] = Kit.in(place % 2 == 0 ? Kit.IF_SAME : Kit.IF_LESS, 0, 0, Math.min(place + 1, 79));
        }
        rows[79] = Kit.in(Kit.IF_LESS, 0, 0, 0);
        ShrinkBench s = Kit.with(rows);
        check.due("run()", s.run(), 0);
        check.due("told(3)", s.told(3), 80);
        check.due("told(4)", s.told(4), 80);
        for (int branch = 0; branch < 160; branch++) {
            boolean went = branch / 2 % 2 == 0;
            check.due("turns(" + branch + ")", s.turns(branch), went == (branch % 2 == 1) ? 1 : 0);
        }
        check.due("turns(-1)", s.turns(-1), NONE);
        check.due("turns(160)", s.turns(160), NONE);
        check.due("turns(MIN)", s.turns(MIN), NONE);
        check.due("turns(MAX)", s.turns(MAX), NONE);
        ShrinkBench both = Machines.countdown(0);
        Kit.run(both, 3);
        check.due("told(4), both branches", both.told(4), 2);
        check.due("turns(8), of a place that is none", both.turns(8), 0);
        check.due("turns(0), of a place without a branch", both.turns(0), 0);
    }

    private static void refusalsOfTheLatestRun() {
        ShrinkBench s = Machines.countdown(0);
        Kit.run(s, 3);
        for (int what : new int[] {-1, 5, 6, MIN, MAX}) {
            check.due("told(" + what + ")", s.told(what), NONE);
        }
        for (int r : new int[] {-1, 8, 9, MIN, MAX}) {
            s.register(0);
            check.due("register(" + r + ")", s.register(r), NONE);
            check.due("status()", s.status(), NONE);
        }
        ShrinkBench m = Kit.with(Kit.in(Kit.SET, 7, -1, 0));
        m.run();
        check.due("register(7)", m.register(7), -1);
        check.due("status()", m.status(), 0);
    }

    private static void latestRunIsOfRunAndAttemptOnly() {
        ShrinkBench s = Kit.with(Kit.in(Kit.NEXT, 0, 0, 0), Kit.in(Kit.CHECK, 0, 0, 0), Kit.in(Kit.IF_SAME, 0, 1, 3));
        Kit.attempt(s, 0, 0);
        check.due("told(0) of attempt()", s.told(0), 4);
        check.due("register(0) of attempt()", s.register(0), 0);
        check.due("run()", Kit.run(s, 33), 0);
        for (int i = 0; i < 5; i++) {
            check.due("told(0)", s.told(0), 0);
            check.due("told(3)", s.told(3), 3);
            check.due("register(0)", s.register(0), 33);
            check.due("turns(4)", s.turns(4), 1);
            if (i == 0) {
                check.due("cut(0, 0)", s.cut(0, 0), 1);
            } else if (i == 1) {
                check.due("least(0, 0)", s.least(0, 0), 1);
            } else if (i == 2) {
                check.due("unseen(5)", s.unseen(5), 1);
            } else if (i == 3) {
                check.due("merge(1)", s.merge(1), 0);
            }
        }
        s.attempt(2);
        check.due("register(0) behind a refusal", s.register(0), 33);
    }

    private static void tellsFailure(ShrinkBench s, int kind, int place, int calls, int steps) {
        check.due("told(0)", s.told(0), kind);
        check.due("told(1)", s.told(1), place);
        check.due("told(2)", s.told(2), calls);
        check.due("told(3)", s.told(3), steps);
    }
}
