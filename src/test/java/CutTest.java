/** Promises 21 to 24: cut, runs, least, unseen. */
public final class CutTest {
    private static final int NONE = ShrinkBench.NONE;
    private static final int STATE = ShrinkBench.STATE;
    private static final int MIN = Integer.MIN_VALUE;
    private static final int MAX = Integer.MAX_VALUE;
    private static final Check check = new Check("CutTest");

    public static void main(String[] args) {
        cutOfOneByte();
        cutOfWhatCanAllGo();
        cutLeavesOutInHalves();
        cutOfWhatCanNotGo();
        cutGoesRoundAgain();
        cutKeepsTheCallsOfTheFault();
        cutIsOfTheFirstInput();
        runsAreOfTheLatestCut();
        leastInputs();
        leastOfTheEmptyInput();
        noByteIsAbove255();
        unseenBranches();
        refusals();
        check.end();
    }

    private static void cutTo(ShrinkBench x, int f, int runs, int... want) {
        String due = java.util.Arrays.toString(want);
        check.due("cut(0, " + f + ") to " + due, x.cut(0, f), want.length);
        check.holds("it is " + due + ", not " + Kit.tapeOf(x), Kit.tapeOf(x).equals(due));
        check.due("runs() of the cut to " + due, x.runs(), runs);
    }

    /** 0, the half and 1 less are run each, also where two of them are the same byte. */
    private static void cutOfOneByte() {
        int[][] rows = {
            // least byte that fails, first byte, runs
            {1, 1, 4}, {1, 2, 10}, {2, 2, 4}, {2, 3, 11}, {3, 3, 4}, {100, 200, 10}, {100, 201, 10},
            {255, 255, 4}};
        for (int[] row : rows) {
            ShrinkBench x = Machines.notBelow(row[0]);
            check.due("attempt(0)", Kit.attempt(x, 0, row[1]), 3);
            cutTo(x, 0, row[2], row[0]);
        }
        // From 199 on only 1 less shows, 99 times, of three runs each.
        ShrinkBench x = Machines.notBelow(100);
        Kit.attempt(x, 0, 199);
        cutTo(x, 0, 1 + 3 * 99 + 3 + 1 + 3, 100);
        ShrinkBench zero = Machines.notBelow(0);
        Kit.attempt(zero, 0, 77);
        cutTo(zero, 0, 1 + 1 + 1, 0);
        ShrinkBench already = Machines.notBelow(0);
        Kit.attempt(already, 0, 0);
        cutTo(already, 0, 1, 0);
    }

    private static void cutOfWhatCanAllGo() {
        ShrinkBench x = Kit.with(Kit.in(Kit.CHECK, 0, 0, 0));
        Kit.attempt(x, 0);
        cutTo(x, 0, 0);
        for (int n = 1; n <= 24; n++) {
            ShrinkBench y = Kit.with(Kit.in(Kit.CHECK, 0, 0, 0));
            Kit.attempt(y, 0, new int[n]);
            // Half goes, then the other half.
            cutTo(y, 0, n == 1 ? 1 : 2);
        }
    }

    /** Fails if there are not less than three bytes. */
    private static void cutLeavesOutInHalves() {
        ShrinkBench x = Kit.with(
                Kit.in(Kit.COUNT, 0, 0, 0), Kit.in(Kit.SET, 1, 3, 0), Kit.in(Kit.IF_LESS, 0, 1, 4),
                Kit.in(Kit.CHECK, 7, 0, 0));
        Kit.attempt(x, 0, 0, 1, 0, 2, 0, 0, 0);
        // s 4: [0, 0, 0] shows, then [] does not; s 2: o 0, 2; s 1: o 0, 1, 2; no byte is above 0.
        // Once more: s 2: o 0, 2; s 1: o 0, 1, 2.
        cutTo(x, 0, 2 + 2 + 3 + 2 + 3, 0, 0, 0);
        ShrinkBench y = Kit.with(
                Kit.in(Kit.COUNT, 0, 0, 0), Kit.in(Kit.SET, 1, 3, 0), Kit.in(Kit.IF_LESS, 0, 1, 4),
                Kit.in(Kit.CHECK, 7, 0, 0));
        Kit.attempt(y, 0, 9, 8, 7, 6);
        // s 2: o 0 and 2 do not; s 1: o 0 shows, then o 0, 1, 2 do not; [8, 7, 6] to [0, 0, 0] in 3.
        // Once more: s 2: o 0, 2; s 1: o 0, 1, 2.
        cutTo(y, 0, 2 + 4 + 3 + 5, 0, 0, 0);
    }

    /** Fails if there are all 24 bytes: parts of 12, 6, 3 and 1 are left out in vain. */
    private static void cutOfWhatCanNotGo() {
        ShrinkBench x = Kit.with(
                Kit.in(Kit.COUNT, 0, 0, 0), Kit.in(Kit.SET, 1, 24, 0), Kit.in(Kit.IF_LESS, 0, 1, 4),
                Kit.in(Kit.CHECK, 7, 0, 0));
        Kit.attempt(x, 0, new int[24]);
        cutTo(x, 0, 2 + 4 + 8 + 24, new int[24]);
    }

    /** The first machine fails if the bytes are as many as the first of them tells. */
    private static void cutGoesRoundAgain() {
        ShrinkBench x = Kit.with(
                Kit.in(Kit.NEXT, 0, 0, 0), Kit.in(Kit.COUNT, 1, 0, 0), Kit.in(Kit.IF_SAME, 0, 1, 4),
                Kit.in(Kit.END, 0, 0, 0), Kit.in(Kit.CHECK, 7, 0, 0));
        Kit.attempt(x, 0, 3, 1, 9);
        // s 2: [9]: no; [3, 1]: no. s 1: [1, 9], [3, 9], [3, 1]: no. 3: 0, 1, 2: no; 1: 0 shows;
        // 9: 0 shows. Once more: s 2: two, s 1: three, 3: three.
        cutTo(x, 0, 2 + 3 + 3 + 1 + 1 + 2 + 3 + 3, 3, 0, 0);
        ShrinkBench y = Kit.with(
                Kit.in(Kit.COUNT, 0, 0, 0), Kit.in(Kit.IF_SAME, 0, 7, 7), Kit.in(Kit.SET, 1, 1, 0),
                Kit.in(Kit.SUBTRACT, 0, 1, 0), Kit.in(Kit.PICK, 2, 0, 0), Kit.in(Kit.IF_LESS, 0, 2, 7),
                Kit.in(Kit.CHECK, 7, 0, 0), Kit.in(Kit.END, 0, 0, 0));
        // Fails if the last byte is not above its own place.
        Kit.attempt(y, 0, 5, 2, 2);
        // s 2: [2]: 0 < 2, no; [5, 2]: 1 < 2, no. s 1: [2, 2]: no; [5, 2]: no; [5, 2]: no.
        // 5: 0 shows; 2: 0 shows; 2: 0 shows. Once more, of [0, 0, 0]: s 2: [0] shows, and o 0
        // is below 1: [] does not; s 1: [] does not. And once more: s 1: [] does not.
        cutTo(y, 0, 5 + 3 + 3 + 1, 0);
    }

    private static void cutKeepsTheCallsOfTheFault() {
        int[][] firsts = {{7, 0, 0, 9, 0}, {9, 9, 9, 9}, {0, 0, 0, 9}, {5}, {0, 0, 0}};
        int[][] cuts = {{1, 0}, {1, 1}, {0, 1}, {1}, {0, 0}};
        ShrinkBench x = Machines.callTree();
        for (int f = 0; f < firsts.length; f++) {
            check.due("attempt of fault " + f, Kit.attempt(x, 0, firsts[f]) & 2, 2);
            check.due("cut(0, " + f + ")", x.cut(0, f), cuts[f].length);
            String want = java.util.Arrays.toString(cuts[f]);
            check.holds("cut to " + want + ", not " + Kit.tapeOf(x), Kit.tapeOf(x).equals(want));
        }
    }

    private static void cutIsOfTheFirstInput() {
        ShrinkBench x = Machines.notBelow(50);
        Kit.attempt(x, 0, 60, 1);
        Kit.attempt(x, 0, 50);
        Kit.tape(x, 1, 2, 3);
        check.due("cut(0, 0)", x.cut(0, 0), 1);
        check.due("runs()", x.runs(), 2 + 3 * 10 + 3 + 1 + 3);
        check.due("first(0, 0)", x.first(0, 0), 2);
        check.holds("the first input stays", Kit.tapeOf(x).equals("[60, 1]"));
        check.due("cut(0, 0) once more", x.cut(0, 0), 1);
        check.due("runs() once more", x.runs(), 39);
        int[] want = {1, 1, 1, 1, 2};
        for (int what = 0; what < 5; what++) {
            check.due("about(0, " + what + ")", x.about(0, what), want[what]);
        }
        check.due("fault(0, 0, 4)", x.fault(0, 0, 4), 2);
    }

    private static void runsAreOfTheLatestCut() {
        ShrinkBench x = Machines.notBelow(1);
        check.due("runs() ahead of any cut", x.runs(), 0);
        Kit.attempt(x, 1, 2);
        check.due("runs() behind attempt()", x.runs(), 0);
        check.due("cut(0, 0), no fault", x.cut(0, 0), NONE);
        check.due("cut(1, 0)", x.cut(1, 0), 1);
        check.due("runs()", x.runs(), 10);
        check.due("cut(1, 1), no fault", x.cut(1, 1), NONE);
        check.due("runs() behind a refusal", x.runs(), 10);
        x.run();
        x.least(1, 0);
        x.unseen(4);
        x.merge(0);
        check.due("runs() behind other acts", x.runs(), 10);
    }

    private static void leastInputs() {
        for (int least : new int[] {0, 1, 128, 254, 255}) {
            ShrinkBench x = Machines.notBelow(least);
            Kit.attempt(x, 0, 255, 3);
            check.due("least(0, 0)", x.least(0, 0), 1);
            check.due("at(0)", x.at(0), least);
            check.due("at(1)", x.at(1), NONE);
        }
        ShrinkBench two = Kit.with(
                Kit.in(Kit.COUNT, 0, 0, 0), Kit.in(Kit.SET, 1, 2, 0), Kit.in(Kit.IF_LESS, 0, 1, 4),
                Kit.in(Kit.CHECK, 7, 0, 0));
        Kit.attempt(two, 1, 8, 9);
        Kit.tape(two, 4, 5, 6);
        check.due("least(1, 0), there is none", two.least(1, 0), STATE);
        check.holds("the tape stays", Kit.tapeOf(two).equals("[4, 5, 6]"));
        check.due("least(0, 0), no fault", two.least(0, 0), NONE);
    }

    private static void leastOfTheEmptyInput() {
        ShrinkBench x = Kit.with(Kit.in(Kit.NEXT, 0, 0, 0), Kit.in(Kit.IF_LESS, 7, 0, 4), Kit.in(Kit.CHECK, 7, 0, 0));
        Kit.attempt(x, 0, 0, 0);
        check.due("least(0, 0)", x.least(0, 0), 0);
        check.due("at(0)", x.at(0), NONE);
        check.due("feed(3)", x.feed(3), 1);
    }

    /** Two bytes can make a sum of 255 and more, one byte and the -1 behind it can not. */
    private static void noByteIsAbove255() {
        ShrinkBench x = Kit.with(
                Kit.in(Kit.NEXT, 0, 0, 0), Kit.in(Kit.NEXT, 1, 0, 0), Kit.in(Kit.ADD, 0, 1, 0),
                Kit.in(Kit.SET, 2, 255, 0), Kit.in(Kit.IF_LESS, 0, 2, 6), Kit.in(Kit.CHECK, 7, 0, 0));
        check.due("attempt(0)", Kit.attempt(x, 0, 200, 100), 3);
        check.due("least(0, 0)", x.least(0, 0), STATE);
        check.due("unseen(8)", x.unseen(8), 1);
        check.due("unseen(9)", x.unseen(9), 0);
    }

    private static void unseenBranches() {
        ShrinkBench x = Kit.with(
                Kit.in(Kit.NEXT, 0, 0, 0), Kit.in(Kit.IF_LESS, 0, 7, 6), Kit.in(Kit.SET, 1, 255, 0),
                Kit.in(Kit.IF_SAME, 0, 1, 5), Kit.in(Kit.END, 0, 0, 0), Kit.in(Kit.NEXT, 2, 0, 0),
                Kit.in(Kit.IF_LESS, 2, 7, 79), Kit.in(Kit.IF_SAME, 2, 3, 79));
        Kit.tape(x, 255, 0);
        check.due("run()", x.run(), 0);
        int[] want = {NONE, NONE, 0, 0, NONE, NONE, 0, 0, NONE, NONE, NONE, NONE, 0, 0, 1, 0};
        // Of the empty input 6 is run with register 2 at 0, and so is 7.
        for (int branch = 0; branch < want.length; branch++) {
            check.due("unseen(" + branch + ")", x.unseen(branch), want[branch]);
        }
        for (int branch : new int[] {MIN, -3, -2, -1, 16, 17, 159, 160, 161, MAX}) {
            check.due("unseen(" + branch + ")", x.unseen(branch), NONE);
        }
        check.holds("the tape stays", Kit.tapeOf(x).equals("[255, 0]"));
        Kit.attempt(x, 0, 255, 7);
        check.due("turns(14)", x.turns(14), 1);
        check.due("unseen(14), by two bytes", x.unseen(14), 1);
        check.due("about(0, 4)", x.about(0, 4), 1);
        ShrinkBench branchFirst = Kit.with(Kit.in(Kit.IF_SAME, 0, 0, 1));
        check.due("unseen(-1)", branchFirst.unseen(-1), NONE);
        check.due("unseen(0)", branchFirst.unseen(0), 1);
        check.due("unseen(1)", branchFirst.unseen(1), 0);
        check.due("code() behind unseen()", branchFirst.code(17, 0, 0, 0), 1);
    }

    private static void refusals() {
        ShrinkBench x = Machines.notBelow(9);
        Kit.attempt(x, 0, 9);
        Kit.attempt(x, 1, 9);
        Kit.tape(x, 1, 2);
        for (int bad : new int[] {MIN, -2, -1, 2, 3, MAX}) {
            check.due("cut(" + bad + ", 0)", x.cut(bad, 0), NONE);
            check.due("cut(0, " + bad + ")", x.cut(0, bad), NONE);
            check.due("least(" + bad + ", 0)", x.least(bad, 0), NONE);
            check.due("least(1, " + bad + ")", x.least(1, bad), NONE);
        }
        check.holds("refusals leave the tape", Kit.tapeOf(x).equals("[1, 2]"));
        check.due("runs()", x.runs(), 0);
    }
}
