/** Promises 15 to 20 and 25: attempt, about, covered, pool, fault, first, merge. */
public final class BenchTest {
    private static final int NONE = ShrinkBench.NONE;
    private static final int MIN = Integer.MIN_VALUE;
    private static final int MAX = Integer.MAX_VALUE;
    private static final Check check = new Check("BenchTest");

    public static void main(String[] args) {
        attemptAnswers();
        reachesAreByDigits();
        longestTurnsHaveNineDigits();
        poolHolds40();
        faultsAre20AtMost();
        faultsAreToldApart();
        faultsCountTheirInputs();
        poolAndFirstMakeTheTape();
        refusals();
        mergeTriesPoolThenFirsts();
        mergeLeavesTheRest();
        mergeIntoAFullPool();
        mergeOfAFirstInputThatThePoolHadNoRoomFor();
        check.end();
    }

    private static void attemptAnswers() {
        ShrinkBench x = Machines.twoWays();
        check.due("attempt(-1)", x.attempt(-1), NONE);
        check.due("attempt(2)", x.attempt(2), NONE);
        check.due("attempt, further, well", Kit.attempt(x, 0, 5, 1), 1);
        check.due("attempt once more", Kit.attempt(x, 0, 5, 1), 0);
        check.due("attempt, no further, a fault", Kit.attempt(x, 0, 6, 0), 2);
        check.due("attempt, no further, the same fault", Kit.attempt(x, 0, 7, 0), 0);
        check.due("attempt, further, another fault", Kit.attempt(x, 0, 10, 0), 3);
        check.due("attempt, no further, well", Kit.attempt(x, 0, 11, 1), 0);
        int[] of0 = {2, 2, 2, 2, 6};
        int[] of1 = {1, 1, 1, 1, 1};
        check.due("about(1, 4)", x.about(1, 4), 0);
        check.due("attempt in bench 1", Kit.attempt(x, 1, 10, 0), 3);
        for (int what = 0; what < 5; what++) {
            check.due("about(0, " + what + ")", x.about(0, what), of0[what]);
            check.due("about(1, " + what + ")", x.about(1, what), of1[what]);
        }
        check.due("covered(0, 7, 1)", x.covered(0, 7, 1), 1);
        check.due("covered(0, 6, 1)", x.covered(0, 6, 1), 1);
        check.due("covered(1, 7, 1)", x.covered(1, 7, 1), 0);
        check.due("covered(1, 6, 1)", x.covered(1, 6, 1), 1);
        check.holds("attempt() leaves the tape", Kit.tapeOf(x).equals("[10, 0]"));
    }

    private static void reachesAreByDigits() {
        ShrinkBench x = Machines.loopOverBytes();
        int[][] rows = {
            // bytes, digits of as many turns, reaches in all
            {0, 0, 1}, {1, 1, 2}, {2, 2, 3}, {3, 2, 3}, {4, 3, 4}, {7, 3, 4}, {8, 4, 5}, {15, 4, 5}, {16, 5, 6},
            {24, 5, 6}};
        for (int i = 0; i < rows.length; i++) {
            int n = rows[i][0];
            boolean further = i == 0 || rows[i][2] != rows[i - 1][2];
            check.due("attempt of " + n + " bytes", Kit.attempt(x, 0, new int[n]), further ? 1 : 0);
            check.due("turns(5)", x.turns(5), n);
            check.due("about(0, 0)", x.about(0, 0), rows[i][2]);
            check.due("about(0, 2)", x.about(0, 2), rows[i][2]);
            check.due("about(0, 3)", x.about(0, 3), n == 0 ? 1 : 2);
            check.due("about(0, 4)", x.about(0, 4), i + 1);
            for (int d = 1; d <= 9; d++) {
                check.due("covered(0, 5, " + d + ")", x.covered(0, 5, d), d <= rows[i][1] ? 1 : 0);
                check.due("covered(0, 4, " + d + ")", x.covered(0, 4, d), d == 1 ? 1 : 0);
            }
        }
    }

    private static void longestTurnsHaveNineDigits() {
        ShrinkBench x = Kit.with(Kit.in(Kit.IF_SAME, 0, 0, 0));
        check.due("attempt(1)", x.attempt(1), 3);
        check.due("turns(1)", x.turns(1), 400);
        check.due("covered(1, 1, 9)", x.covered(1, 1, 9), 1);
        check.due("covered(1, 1, 8)", x.covered(1, 1, 8), 0);
        check.due("about(1, 2)", x.about(1, 2), 1);
    }

    private static void poolHolds40() {
        ShrinkBench x = Machines.manyReaches();
        Machines.fillPool(check, x, 0);
        check.due("about(0, 0)", x.about(0, 0), 40);
        int reaches = x.about(0, 2);
        check.due("covered(0, 9, 5)", x.covered(0, 9, 5), 0);
        check.due("attempt, further, the pool full", Kit.attempt(x, 0, new int[16]), 0);
        check.due("covered(0, 9, 5)", x.covered(0, 9, 5), 1);
        check.due("about(0, 2)", x.about(0, 2), reaches + 2);
        check.due("about(0, 0)", x.about(0, 0), 40);
        check.due("about(0, 4)", x.about(0, 4), 41);
        check.due("pool(0, 39)", x.pool(0, 39), 8);
        check.due("pool(0, 40)", x.pool(0, 40), NONE);
        check.due("pool(0, 36)", x.pool(0, 36), 1);
        check.due("at(0)", x.at(0), 36);
    }

    private static void faultsAre20AtMost() {
        ShrinkBench x = Machines.manyFaults();
        for (int i = 0; i < 22; i++) {
            check.due("attempt of byte " + i, Kit.attempt(x, 0, i), i < 20 ? 3 : 1);
            check.due("told(1)", x.told(1), 47 + i);
        }
        check.due("about(0, 1)", x.about(0, 1), 20);
        check.due("attempt of a fault beyond the 20", Kit.attempt(x, 0, 21), 0);
        check.due("attempt of the last fault", Kit.attempt(x, 0, 19), 0);
        for (int f = 0; f < 20; f++) {
            check.due("fault(0, " + f + ", 0)", x.fault(0, f, 0), 1);
            check.due("fault(0, " + f + ", 1)", x.fault(0, f, 1), 47 + f);
            check.due("fault(0, " + f + ", 2)", x.fault(0, f, 2), NONE);
            check.due("fault(0, " + f + ", 3)", x.fault(0, f, 3), NONE);
            check.due("fault(0, " + f + ", 4)", x.fault(0, f, 4), f == 19 ? 2 : 1);
            check.due("first(0, " + f + ")", x.first(0, f), 1);
            check.due("at(0)", x.at(0), f);
        }
        check.due("fault(0, 20, 0)", x.fault(0, 20, 0), NONE);
        check.due("first(0, 20)", x.first(0, 20), NONE);
        check.due("cut(0, 20)", x.cut(0, 20), NONE);
        check.due("least(0, 20)", x.least(0, 20), NONE);
    }

    private static void faultsAreToldApart() {
        ShrinkBench x = Machines.callTree();
        int[][] inputs = {{}, {0}, {1}, {0, 0}, {0, 1}, {1, 0}, {1, 1}};
        int[][] calls = {{NONE, NONE}, {4, NONE}, {6, NONE}, {4, 4}, {6, 4}, {4, 6}, {6, 6}};
        for (int f = 0; f < inputs.length; f++) {
            check.due("attempt of fault " + f, Kit.attempt(x, 0, inputs[f]) & 2, 2);
            check.due("fault(0, " + f + ", 0)", x.fault(0, f, 0), 4);
            check.due("fault(0, " + f + ", 1)", x.fault(0, f, 1), 8);
            check.due("fault(0, " + f + ", 2)", x.fault(0, f, 2), calls[f][0]);
            check.due("fault(0, " + f + ", 3)", x.fault(0, f, 3), calls[f][1]);
        }
        check.due("attempt, a third call", Kit.attempt(x, 0, 1, 0, 0) & 2, 0);
        check.due("attempt, another third call", Kit.attempt(x, 0, 0, 0, 0) & 2, 0);
        check.due("fault(0, 3, 4)", x.fault(0, 3, 4), 3);
        check.due("attempt, too deep", Kit.attempt(x, 0, 0, 0, 0, 0, 0, 0, 0, 0, 0) & 2, 2);
        check.due("fault(0, 7, 0)", x.fault(0, 7, 0), 3);
        check.due("fault(0, 7, 1)", x.fault(0, 7, 1), 4);
        ShrinkBench kinds = Kit.with(
                Kit.in(Kit.SET, 1, 1, 0), Kit.in(Kit.NEXT, 0, 0, 0), Kit.in(Kit.SUBTRACT, 0, 1, 0),
                Kit.in(Kit.IF_LESS, 7, 0, 2), Kit.in(Kit.CHECK, 7, 0, 0));
        check.due("attempt, kind 4 at 4", Kit.attempt(kinds, 0, 1), 3);
        check.due("attempt, kind 5 at 4", Kit.attempt(kinds, 0, 199), 3);
        check.due("attempt, kind 5 at 2", Kit.attempt(kinds, 0, 200), 2);
        int[][] want = {{4, 4}, {5, 4}, {5, 2}};
        for (int f = 0; f < 3; f++) {
            check.due("fault(0, " + f + ", 0)", kinds.fault(0, f, 0), want[f][0]);
            check.due("fault(0, " + f + ", 1)", kinds.fault(0, f, 1), want[f][1]);
        }
    }

    private static void faultsCountTheirInputs() {
        ShrinkBench x = Machines.twoWays();
        Kit.attempt(x, 0, 10, 0);
        Kit.attempt(x, 0, 1, 0);
        Kit.attempt(x, 0, 2, 0);
        Kit.attempt(x, 0, 3, 1);
        Kit.attempt(x, 1, 3, 0);
        Kit.run(x, 3, 0);
        x.cut(0, 1);
        x.least(0, 1);
        x.unseen(6);
        check.due("fault(0, 0, 4)", x.fault(0, 0, 4), 1);
        check.due("fault(0, 1, 4)", x.fault(0, 1, 4), 2);
        check.due("fault(1, 0, 4)", x.fault(1, 0, 4), 1);
        check.due("about(0, 4)", x.about(0, 4), 4);
        check.due("about(1, 4)", x.about(1, 4), 1);
    }

    private static void poolAndFirstMakeTheTape() {
        ShrinkBench x = Machines.twoWays();
        Kit.attempt(x, 0, 5, 1, 9);
        Kit.attempt(x, 0, 6, 0);
        Kit.attempt(x, 0, 200, 0, 7, 7);
        Kit.attempt(x, 0);
        check.due("pool(0, 0)", x.pool(0, 0), 3);
        check.holds("it is the pool input", Kit.tapeOf(x).equals("[5, 1, 9]"));
        x.feed(1);
        x.change(0, 1, 0, 77);
        check.due("pool(0, 1)", x.pool(0, 1), 4);
        check.holds("it is the pool input", Kit.tapeOf(x).equals("[200, 0, 7, 7]"));
        x.keep(0);
        check.due("pool(0, 0)", x.pool(0, 0), 3);
        check.holds("it has stayed", Kit.tapeOf(x).equals("[5, 1, 9]"));
        check.due("first(0, 0)", x.first(0, 0), 2);
        check.holds("it is the first input", Kit.tapeOf(x).equals("[6, 0]"));
        x.keep(0);
        check.due("first(0, 1)", x.first(0, 1), 4);
        check.due("first(0, 0)", x.first(0, 0), 2);
        Kit.tape(x, 8);
        check.due("pool(0, 2)", x.pool(0, 2), NONE);
        check.due("pool(1, 0)", x.pool(1, 0), NONE);
        check.due("first(0, 2)", x.first(0, 2), NONE);
        check.due("first(1, 0)", x.first(1, 0), NONE);
        check.holds("a refusal leaves the tape", Kit.tapeOf(x).equals("[8]"));
        ShrinkBench empty = Machines.loopOverBytes();
        check.due("attempt of the empty input", empty.attempt(1), 1);
        Kit.tape(empty, 1, 2);
        check.due("pool(1, 0)", empty.pool(1, 0), 0);
        check.due("at(0)", empty.at(0), NONE);
    }

    private static void refusals() {
        ShrinkBench x = Machines.twoWays();
        Kit.attempt(x, 0, 5, 0);
        Kit.attempt(x, 1, 5, 0);
        for (int bad : new int[] {MIN, -2, -1, 2, 3, MAX}) {
            check.due("attempt(" + bad + ")", x.attempt(bad), NONE);
            check.due("about(" + bad + ", 0)", x.about(bad, 0), NONE);
            check.due("covered(" + bad + ", 0, 1)", x.covered(bad, 0, 1), NONE);
            check.due("pool(" + bad + ", 0)", x.pool(bad, 0), NONE);
            check.due("pool(0, " + bad + ")", x.pool(0, bad), NONE);
            check.due("fault(" + bad + ", 0, 0)", x.fault(bad, 0, 0), NONE);
            check.due("fault(1, " + bad + ", 0)", x.fault(1, bad, 0), NONE);
            check.due("first(" + bad + ", 0)", x.first(bad, 0), NONE);
            check.due("first(1, " + bad + ")", x.first(1, bad), NONE);
            check.due("merge(" + bad + ")", x.merge(bad), NONE);
        }
        for (int bad : new int[] {MIN, -1, 5, 6, MAX}) {
            check.due("about(0, " + bad + ")", x.about(0, bad), NONE);
            check.due("fault(0, 0, " + bad + ")", x.fault(0, 0, bad), NONE);
        }
        for (int bad : new int[] {MIN, -1, 160, 161, MAX}) {
            check.due("covered(0, " + bad + ", 1)", x.covered(0, bad, 1), NONE);
        }
        for (int bad : new int[] {MIN, -1, 0, 10, 32, 33, MAX}) {
            check.due("covered(0, 7, " + bad + ")", x.covered(0, 7, bad), NONE);
        }
        check.due("covered(0, 0, 9)", x.covered(0, 0, 9), 0);
        check.due("covered(0, 159, 9)", x.covered(0, 159, 9), 0);
        check.due("about(0, 4), refusals try nothing", x.about(0, 4), 1);
    }

    private static void mergeTriesPoolThenFirsts() {
        ShrinkBench x = Machines.twoWays();
        check.due("merge(0) of nothing", x.merge(0), 0);
        check.due("attempt, to the pool", Kit.attempt(x, 0, 5, 1), 1);
        check.due("attempt, a fault alone", Kit.attempt(x, 0, 6, 0), 2);
        check.due("attempt, both", Kit.attempt(x, 0, 20, 0, 3), 3);
        Kit.tape(x, 99);
        check.due("merge(1)", x.merge(1), 2);
        int[] want = {2, 2, 2, 2, 4};
        for (int what = 0; what < 5; what++) {
            check.due("about(1, " + what + ")", x.about(1, what), want[what]);
        }
        check.holds("merge() leaves the tape", Kit.tapeOf(x).equals("[99]"));
        check.due("about(0, 4), the other bench", x.about(0, 4), 3);
        check.due("pool(1, 0)", x.pool(1, 0), 2);
        check.holds("pool inputs come first", Kit.tapeOf(x).equals("[5, 1]"));
        check.due("pool(1, 1)", x.pool(1, 1), 3);
        check.due("first(1, 0), by the pool input", x.first(1, 0), 3);
        check.due("fault(1, 0, 1)", x.fault(1, 0, 1), 4);
        check.due("fault(1, 0, 4), as pool input and as first", x.fault(1, 0, 4), 2);
        check.due("first(1, 1), by the first input", x.first(1, 1), 2);
        check.due("fault(1, 1, 1)", x.fault(1, 1, 1), 6);
        check.due("fault(1, 1, 4)", x.fault(1, 1, 4), 1);
        check.due("fault(0, 0, 4)", x.fault(0, 0, 4), 1);
        check.due("merge(0)", x.merge(0), 0);
        check.due("about(0, 4)", x.about(0, 4), 7);
        check.due("about(0, 0)", x.about(0, 0), 2);
        check.due("fault(0, 1, 4)", x.fault(0, 1, 4), 3);
    }

    private static void mergeLeavesTheRest() {
        ShrinkBench x = Machines.loopOverBytes();
        Kit.attempt(x, 0, 1, 2, 3);
        Kit.attempt(x, 1, 1);
        check.due("merge(1)", x.merge(1), 1);
        check.due("about(1, 0)", x.about(1, 0), 2);
        check.due("about(0, 0)", x.about(0, 0), 1);
        check.due("covered(1, 5, 2)", x.covered(1, 5, 2), 1);
        check.due("covered(0, 5, 1)", x.covered(0, 5, 1), 0);
        check.due("merge(0)", x.merge(0), 1);
        check.due("covered(0, 5, 1)", x.covered(0, 5, 1), 1);
        check.due("about(0, 4)", x.about(0, 4), 3);
        check.due("about(1, 4)", x.about(1, 4), 2);
    }

    private static void mergeIntoAFullPool() {
        ShrinkBench x = Machines.manyReaches();
        Machines.fillPool(check, x, 1);
        Kit.attempt(x, 0, new int[16]);
        Kit.attempt(x, 0, 3, 3, 3, 3);
        check.due("merge(1), the pool full", x.merge(1), 0);
        check.due("about(1, 0)", x.about(1, 0), 40);
        check.due("covered(1, 9, 5)", x.covered(1, 9, 5), 1);
        check.due("merge(0)", x.merge(0), 38);
        check.due("about(0, 0)", x.about(0, 0), 40);
    }

    private static void mergeOfAFirstInputThatThePoolHadNoRoomFor() {
        ShrinkBench x = Machines.manyReaches();
        Kit.load(x, Kit.in(Kit.CHECK, 7, 0, 0));
        Machines.fillPool(check, x, 0);
        check.due("attempt, further, a fault, the pool full", Kit.attempt(x, 0, 40), 2);
        check.due("attempt of the byte 36", Kit.attempt(x, 1, 36), 1);
        check.due("attempt of 0 .. 5", Kit.attempt(x, 1, 0, 1, 2, 3, 4, 5), 1);
        // Of the pool all but the bytes 0 .. 5 and 36 come, and then the first input of the fault.
        check.due("merge(1)", x.merge(1), 33 + 1);
        check.due("about(1, 0)", x.about(1, 0), 36);
        check.due("pool(1, 35)", x.pool(1, 35), 1);
        check.due("at(0)", x.at(0), 40);
        check.due("about(1, 4)", x.about(1, 4), 43);
    }
}
