/** The sentences about the benches that name an edge: part 2, promises 15 to 20 and 25. */
public final class BenchEdgesTest {
    private static final int NONE = ShrinkBench.NONE;
    private static final int MIN = Integer.MIN_VALUE;
    private static final int MAX = Integer.MAX_VALUE;
    private static final Check check = new Check("BenchEdgesTest");

    public static void main(String[] args) {
        benchesAreTwo();
        poolIs40AtMost();
        coverGrowsWhenThePoolIsFull();
        faultsAre20AtMost();
        onlyANewReachComesToThePool();
        noBranchIsNoReach();
        reachesComeToTheCover();
        leastAndLastBranch();
        firstInputIsKept();
        callsOfAFault();
        kindAndPlaceOfAFault();
        attemptTellsBoth();
        attemptWithBothFull();
        aboutABench();
        aboutAfterMostCalls();
        coveredNumbers();
        poolNumbers();
        faultNumbers();
        faultsThatWereTried();
        firstNumbers();
        mergeOfNothing();
        mergeByNumbers();
        mergeOfFirstOnesByNumbers();
        mergeIntoFullFaults();
        mergeCountsFirstOnes();
        mergeIntoAFullPool();
        check.end();
    }

    private static void about(ShrinkBench x, int bench, int... want) {
        for (int what = 0; what < 5; what++) {
            check.due("about(" + bench + ", " + what + ")", x.about(bench, what), want[what]);
        }
    }

    private static void benchesAreTwo() {
        check.by("BENCHES 0 and 1 have the same MACHINE; each has a POOL of INPUTS, numbered from 0 on");
        ShrinkBench x = Machines.twoWays();
        for (int bench : new int[] {MIN, -1, 2, MAX}) {
            check.due("attempt(" + bench + ")", x.attempt(bench), NONE);
            check.due("merge(" + bench + ")", x.merge(bench), NONE);
        }
        about(x, 0, 0, 0, 0, 0, 0);
        about(x, 1, 0, 0, 0, 0, 0);
        check.due("attempt(0)", Kit.attempt(x, 0, 5, 0), 3);
        about(x, 0, 1, 1, 1, 1, 1);
        about(x, 1, 0, 0, 0, 0, 0);
        check.due("attempt(1), the same machine", Kit.attempt(x, 1, 5, 0), 3);
        about(x, 0, 1, 1, 1, 1, 1);
        about(x, 1, 1, 1, 1, 1, 1);
    }

    private static void poolIs40AtMost() {
        check.by("numbered from 0 on, 40 at most, FAULTS");
        for (int bench = 0; bench < 2; bench++) {
            ShrinkBench x = Machines.manyReaches();
            Machines.fillPool(check, x, bench);
            check.due("about(.., 0)", x.about(bench, 0), 40);
            check.due("attempt, further, of a 41st", Kit.attempt(x, bench, new int[16]), 0);
            check.due("about(.., 0)", x.about(bench, 0), 40);
            check.due("pool(.., 40)", x.pool(bench, 40), NONE);
            check.due("pool(.., 39)", x.pool(bench, 39), 8);
            check.tape("behind pool(.., 39)", x, 0, 0, 0, 0, 0, 0, 0, 0);
            check.due("pool(.., 0)", x.pool(bench, 0), 1);
            check.tape("behind pool(.., 0)", x, 0);
        }
    }

    private static void coverGrowsWhenThePoolIsFull() {
        check.by("it comes to the POOL (if that has less than 40); its REACHES come to the COVER;");
        ShrinkBench x = Machines.manyReaches();
        Machines.fillPool(check, x, 0);
        int before = x.about(0, 2);
        check.due("covered(0, 9, 5), ahead of it", x.covered(0, 9, 5), 0);
        check.due("attempt of 16 bytes 0", Kit.attempt(x, 0, new int[16]), 0);
        check.due("covered(0, 9, 5)", x.covered(0, 9, 5), 1);
        // 16 turns have the branch of byte 0 and the one that tells that there was a byte.
        check.due("about(0, 2)", x.about(0, 2), before + 2);
        check.due("about(0, 4)", x.about(0, 4), 41);
    }

    private static void faultsAre20AtMost() {
        check.by("FAULTS, numbered from 0 on, 20 at most");
        ShrinkBench x = Machines.manyFaults();
        for (int i = 0; i < 22; i++) {
            check.due("attempt of the fault " + i, Kit.attempt(x, 1, i), i < 20 ? 3 : 1);
        }
        check.due("about(1, 1)", x.about(1, 1), 20);
        check.due("fault(1, 19, 1)", x.fault(1, 19, 1), 47 + 19);
        check.due("fault(1, 20, 1)", x.fault(1, 20, 1), NONE);
        check.due("first(1, 19)", x.first(1, 19), 1);
        check.tape("behind first(1, 19)", x, 19);
        check.due("about(1, 0), the pool goes on", x.about(1, 0), 22);
        check.due("attempt of the fault 20 once more", Kit.attempt(x, 1, 20), 0);
        check.due("attempt of the fault 0 once more", Kit.attempt(x, 1, 0), 0);
        check.due("fault(1, 0, 4), it is there", x.fault(1, 0, 4), 2);
        check.due("fault(1, 19, 4)", x.fault(1, 19, 4), 1);
        check.due("about(1, 4)", x.about(1, 4), 24);
    }

    private static void onlyANewReachComesToThePool() {
        check.by("if it has a REACH that is not in the COVER it comes to the POOL");
        ShrinkBench x = Machines.loopOverBytes();
        check.due("attempt of 3 turns", Kit.attempt(x, 0, 1, 1, 1), 1);
        check.due("attempt of 2 turns, as many digits", Kit.attempt(x, 0, 1, 1), 0);
        check.due("attempt of 1 turn, less digits", Kit.attempt(x, 0, 1), 1);
        check.due("attempt of 4 turns, more digits", Kit.attempt(x, 0, 1, 1, 1, 1), 1);
        check.due("attempt of 7 turns, as many", Kit.attempt(x, 0, new int[7]), 0);
        check.due("attempt of no turn", Kit.attempt(x, 0), 0);
        about(x, 0, 3, 0, 4, 2, 6);
        check.due("attempt of the same in bench 1", Kit.attempt(x, 1), 1);
    }

    private static void noBranchIsNoReach() {
        check.by("a COVER: all REACHES of INPUTS that were TRIED there");
        ShrinkBench x = Kit.with(Kit.in(Kit.NEXT, 0, 0, 0), Kit.in(Kit.CHECK, 0, 0, 0));
        check.due("attempt without a branch", Kit.attempt(x, 0, 1), 0);
        check.due("attempt of a fault alone", Kit.attempt(x, 0, 0), 2);
        about(x, 0, 0, 1, 0, 0, 2);
        ShrinkBench none = new ShrinkBench();
        check.due("attempt of no instructions", none.attempt(1), 0);
        about(none, 1, 0, 0, 0, 0, 1);
        ShrinkBench far = Machines.loopOverBytes();
        Kit.run(far, 1, 2, 3);
        far.unseen(5);
        about(far, 0, 0, 0, 0, 0, 0);
    }

    /** A branch that was reached counts also if the run failed behind it. */
    private static void reachesComeToTheCover() {
        check.by("its REACHES come to the COVER;");
        ShrinkBench x = Machines.twoWays();
        check.due("attempt, it fails", Kit.attempt(x, 0, 5, 0), 3);
        check.due("covered(0, 7, 1)", x.covered(0, 7, 1), 1);
        check.due("attempt, it ends well", Kit.attempt(x, 0, 5, 1), 0);
        ShrinkBench two = Machines.loopOverBytes();
        check.due("attempt, two reaches of a kind", Kit.attempt(two, 0, 3), 1);
        about(two, 0, 1, 0, 2, 2, 1);
        check.due("attempt, one reach more", Kit.attempt(two, 0, 3, 3), 1);
        about(two, 0, 2, 0, 3, 2, 2);
    }

    private static void leastAndLastBranch() {
        check.by("a COVER: all REACHES of INPUTS that were TRIED there");
        ShrinkBench zero = Kit.with(Kit.in(Kit.IF_LESS, 0, 0, 0));
        check.due("attempt, by the branch 0", zero.attempt(0), 1);
        check.due("covered(0, 0, 1)", zero.covered(0, 0, 1), 1);
        about(zero, 0, 1, 0, 1, 1, 1);
        ShrinkBench last = new ShrinkBench();
        for (int place = 0; place < 79; place++) {
            last.code(Kit.NEXT, place == 78 ? 0 : 1, 0, 0);
        }
        last.code(Kit.IF_LESS, 0, 7, 79);
        check.due("attempt, by the branch 159", last.attempt(0), 3);
        check.due("covered(0, 159, 9)", last.covered(0, 159, 9), 1);
        check.due("covered(0, 158, 1)", last.covered(0, 158, 1), 0);
        about(last, 0, 1, 1, 1, 1, 1);
    }

    private static void firstInputIsKept() {
        check.by("if it FAILS with a FAULT that is not there yet that comes to the FAULTS"
                + " (if there are less than 20), with this INPUT as its FIRST one.");
        ShrinkBench x = Machines.twoWays();
        check.due("attempt, a fault", Kit.attempt(x, 0, 5, 0, 1, 2), 3);
        check.due("attempt, the same fault, shorter", Kit.attempt(x, 0, 5, 0), 0);
        check.due("first(0, 0)", x.first(0, 0), 4);
        check.tape("behind first(0, 0)", x, 5, 0, 1, 2);
        check.due("about(0, 1)", x.about(0, 1), 1);
        int[] full = new int[24];
        full[0] = 99;
        full[23] = 98;
        check.due("attempt, a fault of 24 bytes", Kit.attempt(x, 0, full), 3);
        Kit.tape(x);
        check.due("first(0, 1)", x.first(0, 1), 24);
        check.tape("behind first(0, 1)", x, full);
        check.due("pool(0, 1)", x.pool(0, 1), 24);
        check.tape("behind pool(0, 1)", x, full);
        ShrinkBench empty = Kit.with(Kit.in(Kit.CHECK, 0, 0, 0));
        check.due("attempt, a fault of no bytes", empty.attempt(0), 2);
        Kit.tape(empty, 1, 2);
        check.due("first(0, 0), no bytes", empty.first(0, 0), 0);
        check.tape("behind first(0, 0)", empty);
    }

    private static void callsOfAFault() {
        check.by("of the CALLS the two innermost ones (fewer if there are fewer).");
        ShrinkBench x = Machines.callTree();
        int[][] inputs = {{}, {0}, {1}, {0, 0}, {0, 1}, {1, 0}, {1, 1}};
        int[][] calls = {{NONE, NONE}, {4, NONE}, {6, NONE}, {4, 4}, {6, 4}, {4, 6}, {6, 6}};
        for (int f = 0; f < inputs.length; f++) {
            check.due("attempt of the fault " + f, Kit.attempt(x, 0, inputs[f]) & 2, 2);
            check.due("fault(0, " + f + ", 2)", x.fault(0, f, 2), calls[f][0]);
            check.due("fault(0, " + f + ", 3)", x.fault(0, f, 3), calls[f][1]);
        }
        int[][] outer = {{0, 0, 0}, {1, 0, 0}, {1, 1, 1, 1, 1, 1, 0, 0}, {0, 0, 0, 0, 0, 0, 0, 0}};
        for (int[] input : outer) {
            check.due("attempt, other calls further out", Kit.attempt(x, 0, input) & 2, 0);
        }
        check.due("fault(0, 3, 4)", x.fault(0, 3, 4), 5);
        check.due("about(0, 1)", x.about(0, 1), 7);
    }

    private static void kindAndPlaceOfAFault() {
        check.by("A FAULT is a KIND, a PLACE, and of the CALLS the two innermost ones");
        ShrinkBench x = Machines.countdown(0);
        Kit.load(x, Kit.in(Kit.CHECK, 7, 0, 0));
        check.due("attempt, kind 4 at 4", Kit.attempt(x, 0, 1), 3);
        check.due("attempt, kind 5 at 4", Kit.attempt(x, 0, 199) & 2, 2);
        check.due("attempt, kind 5 at 2", Kit.attempt(x, 0, 200) & 2, 2);
        check.due("attempt, kind 5 at 2 once more", Kit.attempt(x, 0, 255) & 2, 0);
        int[][] want = {{4, 4}, {5, 4}, {5, 2}};
        for (int f = 0; f < 3; f++) {
            check.due("fault(0, " + f + ", 0)", x.fault(0, f, 0), want[f][0]);
            check.due("fault(0, " + f + ", 1)", x.fault(0, f, 1), want[f][1]);
        }
        ShrinkBench kinds = Kit.with(Kit.in(Kit.CALL, 0, 0, 0));
        check.due("attempt, kind 3 at 0", kinds.attempt(0), 2);
        check.due("fault(0, 0, 0)", kinds.fault(0, 0, 0), 3);
        check.due("fault(0, 0, 1), the place 0", kinds.fault(0, 0, 1), 0);
        check.due("fault(0, 0, 2), the place 0", kinds.fault(0, 0, 2), 0);
        check.due("fault(0, 0, 3), the place 0", kinds.fault(0, 0, 3), 0);
    }

    private static void attemptTellsBoth() {
        check.by("THE TAPE is TRIED in a bench: 1 if it came to the POOL, 2 if its FAULT came to the FAULTS,"
                + " 3 both, else 0. NONE.");
        ShrinkBench x = Machines.twoWays();
        Kit.tape(x, 5, 1);
        for (int bench : new int[] {MIN, -1, 2, MAX}) {
            check.due("attempt(" + bench + ")", x.attempt(bench), NONE);
        }
        check.due("told(3), nothing ran", x.told(3), 0);
        check.due("code(), nothing was tried", x.code(Kit.END, 0, 0, 0), 7);
        check.due("attempt, the pool", x.attempt(0), 1);
        check.due("attempt, neither", x.attempt(0), 0);
        check.due("attempt, the fault", Kit.attempt(x, 0, 5, 0), 2);
        check.due("attempt, both", Kit.attempt(x, 0, 10, 0), 3);
        check.tape("behind attempts", x, 10, 0);
    }

    private static void attemptWithBothFull() {
        check.by("(if there are less than 20)");
        ShrinkBench x = Machines.manyReaches();
        Kit.load(x, Kit.in(Kit.CHECK, 7, 0, 0));
        Machines.fillPool(check, x, 0);
        check.due("attempt, the pool full, a fault", Kit.attempt(x, 0, 40), 2);
        check.due("attempt, the pool full, the fault there", Kit.attempt(x, 0, 41), 0);
        ShrinkBench y = Machines.manyFaults();
        for (int i = 0; i < 20; i++) {
            Kit.attempt(y, 0, i);
        }
        check.due("attempt, the faults full, further", Kit.attempt(y, 0, 20), 1);
        check.due("attempt, the faults full, no further", Kit.attempt(y, 0, 20), 0);
        check.due("about(0, 1)", y.about(0, 1), 20);
        check.due("told(0), it failed", y.told(0), 1);
    }

    private static void aboutABench() {
        check.by("Of a bench what 0 POOL INPUTS, 1 FAULTS, 2 REACHES in its COVER, 3 BRANCHES in it,"
                + " 4 INPUTS that were TRIED. NONE.");
        ShrinkBench x = Machines.loopOverBytes();
        for (int n = 0; n <= 4; n++) {
            Kit.attempt(x, 1, new int[n]);
        }
        about(x, 1, 4, 0, 4, 2, 5);
        for (int bench : new int[] {MIN, -1, 2, MAX}) {
            for (int what = -1; what <= 5; what++) {
                check.due("about(" + bench + ", " + what + ")", x.about(bench, what), NONE);
            }
        }
        for (int what : new int[] {MIN, -1, 5, MAX}) {
            check.due("about(0, " + what + ")", x.about(0, what), NONE);
            check.due("about(1, " + what + ")", x.about(1, what), NONE);
        }
    }

    private static void aboutAfterMostCalls() {
        check.by("An object is used for at most 512 calls after it has been made");
        ShrinkBench x = Kit.with(Kit.in(Kit.CHECK, 0, 0, 0));
        for (int i = 1; i < 510; i++) {
            x.attempt(0);
        }
        check.due("about(0, 4), the 511th call", x.about(0, 4), 509);
        check.due("fault(0, 0, 4), the 512th call", x.fault(0, 0, 4), 509);
    }

    private static void coveredNumbers() {
        check.by("NONE: the branch not 0 .. 159, digits not 1 .. 9.");
        ShrinkBench x = Kit.with(Kit.in(Kit.IF_SAME, 0, 0, 0));
        x.attempt(0);
        check.due("covered(0, 1, 9)", x.covered(0, 1, 9), 1);
        check.due("covered(0, 0, 1)", x.covered(0, 0, 1), 0);
        check.due("covered(0, 159, 1)", x.covered(0, 159, 1), 0);
        check.due("covered(0, 159, 9)", x.covered(0, 159, 9), 0);
        for (int branch : new int[] {MIN, -1, 160, MAX}) {
            check.due("covered(0, " + branch + ", 1)", x.covered(0, branch, 1), NONE);
            check.due("covered(0, " + branch + ", 9)", x.covered(0, branch, 9), NONE);
        }
        for (int digits : new int[] {MIN, -23, -1, 0, 10, 31, 32, 41, MAX}) {
            check.due("covered(0, 1, " + digits + ")", x.covered(0, 1, digits), NONE);
        }
        for (int bench : new int[] {MIN, -1, 2, MAX}) {
            check.due("covered(" + bench + ", 1, 9)", x.covered(bench, 1, 9), NONE);
        }
        check.due("covered(1, 1, 9), the other bench", x.covered(1, 1, 9), 0);
    }

    private static void poolNumbers() {
        check.by("THE TAPE is a POOL INPUT: how many BYTES. NONE.");
        ShrinkBench x = Machines.loopOverBytes();
        Kit.attempt(x, 0);
        Kit.attempt(x, 0, 7);
        Kit.tape(x, 1, 2, 3);
        for (int i : new int[] {MIN, -1, 2, 39, 40, MAX}) {
            check.due("pool(0, " + i + ")", x.pool(0, i), NONE);
        }
        for (int bench : new int[] {MIN, -1, 2, MAX}) {
            check.due("pool(" + bench + ", 0)", x.pool(bench, 0), NONE);
        }
        check.due("pool(1, 0), an empty pool", x.pool(1, 0), NONE);
        check.tape("behind refusals", x, 1, 2, 3);
        check.due("pool(0, 1)", x.pool(0, 1), 1);
        check.tape("behind pool(0, 1)", x, 7);
        check.due("pool(0, 0), no bytes", x.pool(0, 0), 0);
        check.tape("behind pool(0, 0)", x);
    }

    private static void faultNumbers() {
        check.by("Of a FAULT what 0 KIND, 1 PLACE, 2, 3 its CALLS (NONE: none)");
        ShrinkBench x = Machines.callTree();
        Kit.attempt(x, 1);
        Kit.attempt(x, 1, 0, 1);
        int[][] want = {{4, 8, NONE, NONE, 1}, {4, 8, 6, 4, 1}};
        for (int f = 0; f < 2; f++) {
            for (int what = 0; what < 5; what++) {
                check.due("fault(1, " + f + ", " + what + ")", x.fault(1, f, what), want[f][what]);
            }
            for (int what : new int[] {MIN, -1, 5, 6, MAX}) {
                check.due("fault(1, " + f + ", " + what + ")", x.fault(1, f, what), NONE);
            }
        }
        for (int f : new int[] {MIN, -1, 2, 19, 20, MAX}) {
            check.due("fault(1, " + f + ", 0)", x.fault(1, f, 0), NONE);
        }
        for (int bench : new int[] {MIN, -1, 0, 2, MAX}) {
            check.due("fault(" + bench + ", 0, 0)", x.fault(bench, 0, 0), NONE);
        }
    }

    private static void faultsThatWereTried() {
        check.by("4 how many INPUTS that were TRIED had it. NONE.");
        ShrinkBench x = Machines.twoWays();
        Kit.attempt(x, 0, 5, 0);
        Kit.attempt(x, 0, 10, 0);
        Kit.attempt(x, 0, 5, 0);
        Kit.attempt(x, 0, 6, 0);
        Kit.attempt(x, 0, 6, 1);
        Kit.run(x, 5, 0);
        x.cut(0, 0);
        x.least(0, 0);
        check.due("fault(0, 0, 4)", x.fault(0, 0, 4), 3);
        check.due("fault(0, 1, 4)", x.fault(0, 1, 4), 1);
        Kit.attempt(x, 1, 5, 0);
        check.due("fault(0, 0, 4), tried in bench 1", x.fault(0, 0, 4), 3);
        check.due("fault(1, 0, 4)", x.fault(1, 0, 4), 1);
    }

    private static void firstNumbers() {
        check.by("THE TAPE is the FIRST INPUT of a FAULT: how many BYTES. NONE.");
        ShrinkBench x = Machines.twoWays();
        Kit.attempt(x, 0, 5, 0);
        Kit.attempt(x, 0, 10, 0, 7);
        Kit.tape(x, 1, 2, 3, 4);
        for (int f : new int[] {MIN, -1, 2, 19, 20, MAX}) {
            check.due("first(0, " + f + ")", x.first(0, f), NONE);
        }
        for (int bench : new int[] {MIN, -1, 1, 2, MAX}) {
            check.due("first(" + bench + ", 0)", x.first(bench, 0), NONE);
        }
        check.tape("behind refusals", x, 1, 2, 3, 4);
        check.due("first(0, 1)", x.first(0, 1), 3);
        check.tape("behind first(0, 1)", x, 10, 0, 7);
        check.due("first(0, 0)", x.first(0, 0), 2);
        check.tape("behind first(0, 0)", x, 5, 0);
    }

    private static void mergeOfNothing() {
        check.by("are TRIED in this one: how many came to the POOL. NONE.");
        ShrinkBench x = Machines.twoWays();
        for (int bench : new int[] {MIN, -1, 2, MAX}) {
            check.due("merge(" + bench + ")", x.merge(bench), NONE);
        }
        check.due("merge(0) of empty benches", x.merge(0), 0);
        check.due("merge(1) of empty benches", x.merge(1), 0);
        check.due("code(), nothing was tried", x.code(Kit.END, 0, 0, 0), 7);
        Kit.attempt(x, 0, 5, 0);
        check.due("merge(0), the other one is empty", x.merge(0), 0);
        about(x, 0, 1, 1, 1, 1, 1);
        about(x, 1, 0, 0, 0, 0, 0);
    }

    private static void mergeByNumbers() {
        check.by("The POOL INPUTS of the other bench, and its FAULTS' FIRST ones, by numbers, are TRIED in this one");
        ShrinkBench x = Machines.loopOverBytes();
        Kit.attempt(x, 0, 9, 9, 9);
        Kit.attempt(x, 0, 8);
        Kit.attempt(x, 0, 7, 7);
        check.due("merge(1)", x.merge(1), 2);
        about(x, 1, 2, 0, 3, 2, 2);
        check.due("pool(1, 0)", x.pool(1, 0), 3);
        check.due("pool(1, 1)", x.pool(1, 1), 1);
        check.due("merge(1) once more", x.merge(1), 0);
        about(x, 1, 2, 0, 3, 2, 4);
        ShrinkBench y = Machines.twoWays();
        Kit.attempt(y, 1, 5, 1);
        Kit.attempt(y, 1, 6, 0);
        Kit.attempt(y, 1, 20, 0, 3);
        Kit.tape(y, 77);
        check.due("merge(0)", y.merge(0), 2);
        check.tape("behind merge(0)", y, 77);
        check.due("fault(0, 0, 1), of the pool input", y.fault(0, 0, 1), 4);
        check.due("fault(0, 0, 4), of the first one too", y.fault(0, 0, 4), 2);
        check.due("fault(0, 1, 1), of a first one alone", y.fault(0, 1, 1), 6);
        check.due("fault(0, 1, 4)", y.fault(0, 1, 4), 1);
        about(y, 0, 2, 2, 2, 2, 4);
        about(y, 1, 2, 2, 2, 2, 3);
    }

    private static void mergeOfFirstOnesByNumbers() {
        check.by("and its FAULTS' FIRST ones, by numbers, are TRIED in this one");
        ShrinkBench x = Machines.twoWays();
        check.due("attempt, the pool alone", Kit.attempt(x, 0, 5, 1), 1);
        check.due("attempt, the pool alone", Kit.attempt(x, 0, 10, 1), 1);
        check.due("attempt, a fault alone", Kit.attempt(x, 0, 6, 0), 2);
        check.due("attempt, a fault alone", Kit.attempt(x, 0, 11, 0, 0), 2);
        check.due("merge(1)", x.merge(1), 2);
        about(x, 1, 2, 2, 2, 2, 4);
        check.due("fault(1, 0, 1)", x.fault(1, 0, 1), 6);
        check.due("fault(1, 1, 1)", x.fault(1, 1, 1), 4);
        check.due("first(1, 0)", x.first(1, 0), 2);
        check.due("first(1, 1)", x.first(1, 1), 3);
    }

    private static void mergeIntoFullFaults() {
        check.by("FAULTS, numbered from 0 on, 20 at most");
        ShrinkBench x = Machines.manyFaults();
        for (int i = 0; i < 20; i++) {
            Kit.attempt(x, 0, i);
        }
        Kit.attempt(x, 1, 20);
        Kit.attempt(x, 1, 21);
        // Byte 21 has been through the branches of all others but has not gone where they went.
        check.due("merge(1)", x.merge(1), 20);
        about(x, 1, 22, 20, 43, 43, 42);
        check.due("fault(1, 1, 1)", x.fault(1, 1, 1), 47 + 21);
        check.due("fault(1, 2, 1)", x.fault(1, 2, 1), 47);
        check.due("fault(1, 19, 1)", x.fault(1, 19, 1), 47 + 17);
        check.due("fault(1, 19, 4), as pool input and first one", x.fault(1, 19, 4), 2);
        check.due("merge(0), full of other faults", x.merge(0), 2);
        about(x, 0, 22, 20, 43, 43, 62);
        check.due("fault(0, 17, 4)", x.fault(0, 17, 4), 3);
        check.due("fault(0, 18, 4)", x.fault(0, 18, 4), 2);
    }

    private static void mergeCountsFirstOnes() {
        check.by("how many came to the POOL. NONE.");
        ShrinkBench x = Machines.manyReaches();
        Kit.load(x, Kit.in(Kit.CHECK, 7, 0, 0));
        Machines.fillPool(check, x, 0);
        check.due("attempt of a fault, the pool full", Kit.attempt(x, 0, 40), 2);
        check.due("attempt of the byte 36", Kit.attempt(x, 1, 36), 1);
        check.due("attempt of 0 .. 5", Kit.attempt(x, 1, 0, 1, 2, 3, 4, 5), 1);
        check.due("merge(1), 33 and a first one", x.merge(1), 34);
        check.due("pool(1, 35)", x.pool(1, 35), 1);
        check.tape("behind pool(1, 35)", x, 40);
    }

    private static void mergeIntoAFullPool() {
        check.by("how many came to the POOL. NONE.");
        ShrinkBench x = Machines.manyReaches();
        Machines.fillPool(check, x, 1);
        check.due("attempt of 16 bytes 0", Kit.attempt(x, 0, new int[16]), 1);
        check.due("merge(1), the pool full", x.merge(1), 0);
        check.due("about(1, 0)", x.about(1, 0), 40);
        check.due("covered(1, 9, 5), the cover grows", x.covered(1, 9, 5), 1);
        check.due("about(1, 4)", x.about(1, 4), 41);
        check.due("merge(0), up to 40", x.merge(0), 39);
        check.due("about(0, 0)", x.about(0, 0), 40);
        check.due("about(0, 4)", x.about(0, 4), 41);
    }
}
