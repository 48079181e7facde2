import java.util.Arrays;

/** The sentences about cuts that name an edge: part 3, promises 21 to 24. */
public final class CutEdgesTest {
    private static final int NONE = ShrinkBench.NONE;
    private static final int STATE = ShrinkBench.STATE;
    private static final int MIN = Integer.MIN_VALUE;
    private static final int MAX = Integer.MAX_VALUE;
    private static final Check check = new Check("CutEdgesTest");

    public static void main(String[] args) {
        halfRoundedUp();
        fromPlace0On();
        asFarAsThereAre();
        staysAtItsPlace();
        allGoes();
        lessOfEachByte();
        inThisOrder();
        halfIsCut();
        lessThanIt();
        roundsGoOn();
        thousandsOfRounds();
        nIsWhatItHasThen();
        showsTheFault();
        showsByTwoCalls();
        cutOfAFirstInput();
        cutNumbers();
        runsOfTheLatestCut();
        leastIsEmpty();
        leastByte();
        leastIsNone();
        leastNumbers();
        unseenBranches();
        unseenByAtMostOneByte();
        unseenNumbers();
        check.end();
    }

    private static void cutTo(ShrinkBench x, int f, int runs, int... want) {
        String due = Arrays.toString(want);
        check.due("cut(0, " + f + ") to " + due, x.cut(0, f), want.length);
        check.tape("behind the cut to " + due, x, want);
        check.due("runs() of the cut to " + due, x.runs(), runs);
    }

    private static ShrinkBench tried(ShrinkBench x, int... input) {
        check.due("attempt of " + Arrays.toString(input), Kit.attempt(x, 0, input) & 2, 2);
        return x;
    }

    /** Fails if the bytes are so many, or if they are as many as another number tells. */
    private static ShrinkBench ofLength(int n, int other) {
        return Kit.with(
                Kit.in(Kit.COUNT, 0, 0, 0), Kit.in(Kit.SET, 1, n, 0), Kit.in(Kit.SET, 2, other, 0),
                Kit.in(Kit.IF_SAME, 0, 1, 6), Kit.in(Kit.IF_SAME, 0, 2, 6), Kit.in(Kit.END, 0, 0, 0),
                Kit.in(Kit.CHECK, 7, 0, 0));
    }

    /** Fails if the first byte is one of these. */
    private static ShrinkBench oneOf(int... bytes) {
        ShrinkBench x = Kit.with(Kit.in(Kit.NEXT, 0, 0, 0));
        int fails = 2 * bytes.length + 2;
        for (int b : bytes) {
            Kit.load(x, Kit.in(Kit.SET, 1, b, 0), Kit.in(Kit.IF_SAME, 0, 1, fails));
        }
        Kit.load(x, Kit.in(Kit.END, 0, 0, 0), Kit.in(Kit.CHECK, 7, 0, 0));
        return x;
    }

    /** Nothing can go, so that the runs tell which parts were left out. */
    private static void halfRoundedUp() {
        check.by("s is half of n, rounded up, at first; as long as s is above 0:");
        int[] runs = {0, 1, 2, 5, 6, 7, 8, 13, 14, 16, 17, 17, 18, 20, 21, 29, 30, 33, 34, 35, 36, 39, 40, 37, 38};
        for (int n = 0; n <= 24; n++) {
            cutTo(tried(ofLength(n, n), new int[n]), 0, runs[n], new int[n]);
        }
    }

    /** Fails if there is a byte 5 or a byte 9, neither of which can be less. */
    private static ShrinkBench hasFiveOrNine() {
        return Kit.with(
                Kit.in(Kit.SET, 1, 5, 0), Kit.in(Kit.SET, 2, 9, 0), Kit.in(Kit.NEXT, 0, 0, 0),
                Kit.in(Kit.IF_SAME, 0, 1, 7), Kit.in(Kit.IF_SAME, 0, 2, 7), Kit.in(Kit.IF_LESS, 0, 7, 8),
                Kit.in(Kit.JUMP, 0, 0, 2), Kit.in(Kit.CHECK, 7, 0, 0));
    }

    private static void fromPlace0On() {
        check.by("from place o = 0 on, as long as o is below n:");
        // s 1: without the first it shows; of one byte: [] does not. Three in vain to lessen it.
        // Once more: [] does not, and three in vain.
        cutTo(tried(hasFiveOrNine(), 5, 9), 0, 2 + 3 + 1 + 3, 9);
        cutTo(tried(hasFiveOrNine(), 9, 5), 0, 2 + 3 + 1 + 3, 5);
        // s 2: [9] shows, then [] does not; s 1: [] does not.
        cutTo(tried(hasFiveOrNine(), 5, 0, 9), 0, 2 + 1 + 3 + 1 + 3, 9);
    }

    private static void asFarAsThereAre() {
        check.by("if the INPUT without its BYTES o to o + s - 1 (as far as there are) SHOWS it is that now");
        // s 2: without the first two no, without the third alone it is of two bytes and shows.
        // s 1: o 0, 1 in vain. Once more: s 1: o 0, 1 in vain.
        cutTo(tried(ofLength(3, 2), 0, 0, 0), 0, 2 + 2 + 2, 0, 0);
        // s 3: without three no, without the last two yes; then n 3. s 1: 3 in vain.
        // Once more: s 2: 2, s 1: 3 in vain.
        cutTo(tried(ofLength(5, 3), new int[5]), 0, 2 + 3 + 2 + 3, new int[3]);
        // s 2: of two bytes it shows, o stays 0; [] does not, o is 2. s 1: two in vain, and again.
        cutTo(tried(ofLength(4, 2), new int[4]), 0, 2 + 2 + 2, new int[2]);
    }

    private static void staysAtItsPlace() {
        check.by("SHOWS it is that now, else o is s more; then s is half of s, cut (1 becomes 0).");
        // s 4: [0, 5, 0] shows, [] no. s 2: [0] no, [0, 5] shows. s 1: [5] shows, [] no. To lessen
        // the 5 three in vain. Once more: one and three in vain.
        cutTo(tried(hasFiveOrNine(), 0, 0, 0, 0, 0, 5, 0), 0, 2 + 2 + 2 + 3 + 1 + 3, 5);
        // s 3: [0, 9, 0] shows, [] no. s 1: [9, 0] shows, [0] no, [9] shows. The rest in vain.
        cutTo(tried(hasFiveOrNine(), 0, 9, 0, 0, 9, 0), 0, 2 + 3 + 3 + 1 + 3, 9);
    }

    private static void allGoes() {
        check.by("as long as s is above 0");
        for (int n = 0; n <= 24; n++) {
            int[] first = new int[n];
            Arrays.fill(first, 255);
            // One half goes and then the other; of no bytes nothing is run.
            cutTo(tried(Kit.with(Kit.in(Kit.CHECK, 0, 0, 0)), first), 0, Math.min(n, 2));
        }
    }

    private static void lessOfEachByte() {
        check.by("LESSENING: for each BYTE, from the first on:");
        // Fails if the sum is 10 or more, of two bytes at least.
        ShrinkBench x = Kit.with(
                Kit.in(Kit.NEXT, 0, 0, 0), Kit.in(Kit.NEXT, 1, 0, 0), Kit.in(Kit.ADD, 0, 1, 0),
                Kit.in(Kit.SET, 2, 10, 0), Kit.in(Kit.IF_LESS, 0, 2, 6), Kit.in(Kit.CHECK, 7, 0, 0));
        // Two left out in vain. 8: 0 no, 4 yes; 0 no, 2 yes; 0, 1, 1 no. The second: 0, 4, 7 no.
        // Once more: two, three and three in vain.
        cutTo(tried(x, 8, 8), 0, 2 + 2 + 2 + 3 + 3 + 2 + 3 + 3, 2, 8);
    }

    private static void inThisOrder() {
        check.by("as long as one of 0, its half (cut), it less 1, in this order, in its place, less than it, SHOWS,"
                + " it is that now.");
        // The first run is that of []; the last four (of a byte 0 the last one) are a round in vain.
        cutTo(tried(oneOf(10, 5, 9), 10), 0, 1 + 2 + 3 + 1 + 3, 5);
        cutTo(tried(oneOf(10, 0, 5, 9), 10), 0, 1 + 1 + 1, 0);
        cutTo(tried(oneOf(10, 9), 10), 0, 1 + 3 + 3 + 1 + 3, 9);
        cutTo(tried(oneOf(10, 9, 8, 4), 10), 0, 1 + 3 + 2 + 3 + 1 + 3, 4);
        cutTo(tried(oneOf(10, 9, 8), 10), 0, 1 + 3 + 3 + 3 + 1 + 3, 8);
        cutTo(tried(oneOf(10), 10), 0, 1 + 3, 10);
        // The most that one byte can take: 127 times 1 less, of three runs each.
        cutTo(tried(Machines.notBelow(128), 255), 0, 1 + 3 * 127 + 3 + 1 + 3, 128);
    }

    private static void halfIsCut() {
        check.by("its half (cut)");
        cutTo(tried(oneOf(255, 127), 255), 0, 1 + 2 + 3 + 1 + 3, 127);
        cutTo(tried(oneOf(255, 128), 255), 0, 1 + 3, 255);
        cutTo(tried(oneOf(3, 1), 3), 0, 1 + 2 + 3 + 1 + 3, 1);
        cutTo(tried(oneOf(254, 127), 254), 0, 1 + 2 + 3 + 1 + 3, 127);
    }

    /** A byte 1 has three numbers that are less, all of them 0; a byte 0 has none. */
    private static void lessThanIt() {
        check.by("in its place, less than it, SHOWS");
        cutTo(tried(oneOf(0), 0), 0, 1, 0);
        cutTo(tried(oneOf(0, 1), 1), 0, 1 + 1 + 1, 0);
        cutTo(tried(oneOf(1), 1), 0, 1 + 3, 1);
        cutTo(tried(oneOf(2), 2), 0, 1 + 3, 2);
        cutTo(tried(oneOf(0, 255), 255), 0, 1 + 1 + 1, 0);
        cutTo(tried(oneOf(254, 255), 255), 0, 1 + 3 + 3 + 1 + 3, 254);
        int[] zeros = new int[24];
        cutTo(tried(ofLength(24, 24), zeros), 0, 38, zeros);
        int[] ones = new int[24];
        Arrays.fill(ones, 1);
        cutTo(tried(ofLength(24, 24), ones), 0, 38 + 24 + 38, zeros);
    }

    private static void roundsGoOn() {
        check.by("A round that changes nothing is the last one.");
        // Fails if the last byte is not above its own place.
        ShrinkBench x = Kit.with(
                Kit.in(Kit.COUNT, 0, 0, 0), Kit.in(Kit.IF_SAME, 0, 7, 7), Kit.in(Kit.SET, 1, 1, 0),
                Kit.in(Kit.SUBTRACT, 0, 1, 0), Kit.in(Kit.PICK, 2, 0, 0), Kit.in(Kit.IF_LESS, 0, 2, 7),
                Kit.in(Kit.CHECK, 7, 0, 0), Kit.in(Kit.END, 0, 0, 0));
        // Round 1: five in vain, then all three become 0 at once. Round 2: s 2: [0] shows, [] does
        // not; s 1: [] does not. Round 3: [] does not.
        cutTo(tried(x, 5, 2, 2), 0, 5 + 3 + 3 + 1, 0);
        // A round that left something out, but could lessen nothing, is not the last one.
        cutTo(tried(oneOf(7), 7, 0), 0, 2 + 3 + 1 + 3, 7);
        // A round that lessened alone is not the last one either.
        cutTo(tried(oneOf(7, 6), 7), 0, 1 + 3 + 3 + 1 + 3, 6);
    }

    /**
     * Fails on 24 bytes of which none is above the one ahead of it, and the last is at most 1 below
     * the first: of equal ones, they can be 1 less only from the last one to the first.
     */
    private static ShrinkBench fromTheLastOn() {
        return Kit.with(
                Kit.in(Kit.COUNT, 0, 0, 0), Kit.in(Kit.SET, 1, 24, 0), Kit.in(Kit.IF_LESS, 0, 1, 15),
                Kit.in(Kit.NEXT, 2, 0, 0), Kit.in(Kit.COPY, 3, 2, 0), Kit.in(Kit.SET, 5, -1, 0),
                Kit.in(Kit.NEXT, 4, 0, 0), Kit.in(Kit.IF_SAME, 4, 5, 11), Kit.in(Kit.IF_LESS, 3, 4, 15),
                Kit.in(Kit.COPY, 3, 4, 0), Kit.in(Kit.JUMP, 0, 0, 6),
                Kit.in(Kit.SUBTRACT, 2, 3, 0), Kit.in(Kit.SET, 6, 2, 0), Kit.in(Kit.IF_LESS, 2, 6, 16),
                Kit.in(Kit.JUMP, 0, 0, 15), Kit.in(Kit.END, 0, 0, 0), Kit.in(Kit.CHECK, 7, 0, 0));
    }

    /** The document names no bound of the rounds: it is the dearest cut that these tests make. */
    private static void thousandsOfRounds() {
        check.by("A round that changes nothing is the last one.");
        int[] input = new int[24];
        Arrays.fill(input, 255);
        // Byte 0 is 1 less, and byte 23 once more, in each 23rd round from round 24 on, another byte
        // in each one between: byte 0 is 0 behind round 1 + 23 * 255, and byte j > 0 behind round
        // 1 + 23 * 254 + 23 - j. The last round changes nothing.
        int rounds = 1 + 23 * 255 + 1;
        // Down to 2 each by the third way, from 2 by the second and from 1 by the first.
        int lessened = 24 * (253 * 3 + 2 + 1);
        int inVain = 0;
        for (int j = 0; j < 24; j++) {
            inVain += 3 * (1 + 23 * 254 + 22 - j);
        }
        cutTo(tried(fromTheLastOn(), input), 0, 38 * rounds + lessened + inVain, new int[24]);
    }

    private static void nIsWhatItHasThen() {
        check.by("(n is what it has then.)");
        // Round 1: s 4: three bytes show, then none do not; s 2: o 0, 2; s 1: o 0, 1, 2. Round 2,
        // with s of three bytes: 2 and 3.
        cutTo(tried(ofLength(7, 3), new int[7]), 0, 2 + 2 + 3 + 2 + 3, 0, 0, 0);
        // Round 1: s 12: 12 bytes show; none do not. s 6: 2, s 3: 4, s 1: 12. Round 2: s 6, 3, 1.
        cutTo(tried(ofLength(24, 12), new int[24]), 0, 2 + 2 + 4 + 12 + 2 + 4 + 12, new int[12]);
    }

    private static void showsTheFault() {
        check.by("A run SHOWS if it has this FAULT.");
        // Byte 8 fails at 4, all else at 3, with the same kind.
        ShrinkBench place = Kit.with(
                Kit.in(Kit.NEXT, 0, 0, 0), Kit.in(Kit.SET, 1, 8, 0), Kit.in(Kit.IF_SAME, 0, 1, 4),
                Kit.in(Kit.CHECK, 7, 0, 0), Kit.in(Kit.CHECK, 7, 0, 0));
        cutTo(tried(place, 8), 0, 1 + 3, 8);
        cutTo(tried(place, 9), 1, 1);
        // Kind 4 at 4 of a byte up to 198, kind 5 at 4 of 199, kind 5 at 2 of more.
        ShrinkBench kind = Machines.countdown(0);
        Kit.load(kind, Kit.in(Kit.CHECK, 7, 0, 0));
        cutTo(tried(kind, 199), 0, 1 + 3, 199);
        cutTo(tried(kind, 255), 1, 1 + 3 * 55 + 3 + 1 + 3, 200);
        cutTo(tried(kind, 198), 2, 1);
    }

    private static void showsByTwoCalls() {
        check.by("of the CALLS the two innermost ones");
        ShrinkBench x = Machines.callTree();
        // s 3: [9, 0] shows, [] no. s 1: [0], [9] no. 9: 0 no, 4 yes; 0 no, 2 yes; 0 no, 1 yes; three
        // in vain. Once more: two and three in vain.
        cutTo(tried(x, 7, 0, 0, 9, 0), 0, 2 + 2 + 6 + 3 + 2 + 3, 1, 0);
        // One call alone is another fault than none, and than two.
        cutTo(tried(x, 9), 1, 1 + 6 + 3 + 1 + 3, 1);
        cutTo(tried(x, 0, 0), 2, 2, 0, 0);
        cutTo(tried(x, 0), 3, 1, 0);
        cutTo(tried(x), 4, 0);
    }

    private static void cutOfAFirstInput() {
        check.by("TO CUT a FAULT: the INPUT is its FIRST one.");
        ShrinkBench x = Machines.notBelow(50);
        Kit.attempt(x, 0, 60, 1);
        Kit.attempt(x, 0, 50);
        Kit.tape(x, 51);
        cutTo(x, 0, 2 + 3 * 10 + 3 + 1 + 3, 50);
        check.due("first(0, 0), it stays", x.first(0, 0), 2);
        check.tape("behind first(0, 0)", x, 60, 1);
        cutTo(x, 0, 2 + 3 * 10 + 3 + 1 + 3, 50);
        check.due("about(0, 4), a cut tries nothing", x.about(0, 4), 2);
        check.due("fault(0, 0, 4)", x.fault(0, 0, 4), 2);
        check.due("pool(0, 0), it stays", x.pool(0, 0), 2);
    }

    private static void cutNumbers() {
        check.by("A FAULT is CUT, THE TAPE is that INPUT: how many BYTES. NONE.");
        ShrinkBench x = Machines.notBelow(9);
        check.due("cut(0, 0), no fault at all", x.cut(0, 0), NONE);
        Kit.attempt(x, 0, 9);
        Kit.tape(x, 1, 2);
        for (int f : new int[] {MIN, -1, 1, 19, 20, MAX}) {
            check.due("cut(0, " + f + ")", x.cut(0, f), NONE);
        }
        for (int bench : new int[] {MIN, -1, 1, 2, MAX}) {
            check.due("cut(" + bench + ", 0)", x.cut(bench, 0), NONE);
        }
        check.tape("behind refusals", x, 1, 2);
        check.due("runs() behind refusals", x.runs(), 0);
        check.due("cut(0, 0)", x.cut(0, 0), 1);
        ShrinkBench many = Machines.manyFaults();
        for (int i = 0; i < 20; i++) {
            Kit.attempt(many, 1, i, 5);
        }
        check.due("cut(1, 19), the last fault", many.cut(1, 19), 1);
        check.tape("behind cut(1, 19)", many, 19);
        check.due("cut(1, 20)", many.cut(1, 20), NONE);
    }

    private static void runsOfTheLatestCut() {
        check.by("RUNS of the latest cut(), 0 ahead of any.");
        ShrinkBench x = Machines.notBelow(1);
        check.due("runs() of a new object", x.runs(), 0);
        Kit.attempt(x, 0, 2);
        x.run();
        x.least(0, 0);
        x.unseen(4);
        check.due("runs(), no cut yet", x.runs(), 0);
        check.due("cut(0, 0)", x.cut(0, 0), 1);
        check.due("runs()", x.runs(), 10);
        check.due("cut(1, 0), refused", x.cut(1, 0), NONE);
        x.run();
        x.least(0, 0);
        x.merge(1);
        check.due("runs(), of the cut alone", x.runs(), 10);
        check.due("cut(1, 0)", x.cut(1, 0), 1);
        check.due("runs(), not both sums", x.runs(), 10);
        ShrinkBench empty = Kit.with(Kit.in(Kit.CHECK, 0, 0, 0), Kit.in(Kit.END, 0, 0, 0));
        Kit.attempt(empty, 0);
        cutTo(empty, 0, 0);
    }

    private static void leastIsEmpty() {
        check.by("THE TAPE is the least INPUT of at most one BYTE that has a FAULT: how many BYTES"
                + " (0, or 1: the least such BYTE).");
        ShrinkBench all = Kit.with(Kit.in(Kit.CHECK, 0, 0, 0));
        Kit.attempt(all, 0, 7, 8, 9);
        check.due("least(0, 0), of no byte", all.least(0, 0), 0);
        check.tape("behind least(0, 0)", all);
        ShrinkBench some = Machines.callTree();
        Kit.attempt(some, 0, 0);
        Kit.attempt(some, 0, 255);
        Kit.attempt(some, 0);
        check.due("least(0, 0)", some.least(0, 0), 1);
        check.tape("behind least(0, 0)", some, 0);
        check.due("least(0, 1)", some.least(0, 1), 1);
        check.tape("behind least(0, 1)", some, 1);
        check.due("least(0, 2)", some.least(0, 2), 0);
        check.tape("behind least(0, 2)", some);
    }

    private static void leastByte() {
        check.by("1: the least such BYTE");
        for (int least : new int[] {0, 1, 127, 128, 254, 255}) {
            ShrinkBench x = Machines.notBelow(least);
            Kit.attempt(x, 0, 255, 9);
            check.due("least(0, 0)", x.least(0, 0), 1);
            check.tape("behind least(0, 0)", x, least);
        }
        // The cut halves 200 to 100 and goes no further, the least one is below.
        ShrinkBench y = oneOf(200, 100, 30);
        Kit.attempt(y, 0, 200);
        cutTo(y, 0, 1 + 2 + 3 + 1 + 3, 100);
        check.due("least(0, 0)", y.least(0, 0), 1);
        check.tape("behind least(0, 0)", y, 30);
    }

    private static void leastIsNone() {
        check.by("NONE; STATE: there is none (THE TAPE stays).");
        ShrinkBench x = ofLength(2, 2);
        Kit.attempt(x, 0, 8, 9);
        Kit.tape(x, 4, 5, 6);
        check.due("least(0, 0)", x.least(0, 0), STATE);
        check.tape("behind least(0, 0)", x, 4, 5, 6);
        Kit.tape(x);
        check.due("least(0, 0)", x.least(0, 0), STATE);
        check.tape("behind least(0, 0)", x);
        // A byte of 256 would show: there is none.
        ShrinkBench y = Kit.with(
                Kit.in(Kit.NEXT, 0, 0, 0), Kit.in(Kit.NEXT, 1, 0, 0), Kit.in(Kit.ADD, 0, 1, 0),
                Kit.in(Kit.SET, 2, 255, 0), Kit.in(Kit.IF_LESS, 0, 2, 6), Kit.in(Kit.CHECK, 7, 0, 0));
        Kit.attempt(y, 0, 200, 100);
        check.due("least(0, 0), of 255 and no more", y.least(0, 0), STATE);
        check.tape("behind least(0, 0)", y, 200, 100);
    }

    private static void leastNumbers() {
        check.by("(0, or 1: the least such BYTE). NONE; STATE:");
        ShrinkBench x = Machines.notBelow(9);
        check.due("least(0, 0), no fault at all", x.least(0, 0), NONE);
        Kit.attempt(x, 0, 9);
        Kit.tape(x, 1, 2);
        for (int f : new int[] {MIN, -1, 1, 19, 20, MAX}) {
            check.due("least(0, " + f + ")", x.least(0, f), NONE);
        }
        for (int bench : new int[] {MIN, -1, 1, 2, MAX}) {
            check.due("least(" + bench + ", 0)", x.least(bench, 0), NONE);
        }
        check.tape("behind refusals", x, 1, 2);
        check.due("fault(0, 0, 4), nothing was tried", x.fault(0, 0, 4), 1);
    }

    private static void unseenBranches() {
        check.by("Whether no INPUT of at most one BYTE reaches a BRANCH: 1, 0.");
        ShrinkBench never = Kit.with(Kit.in(Kit.IF_SAME, 0, 0, 1), Kit.in(Kit.IF_LESS, 0, 0, 0));
        check.due("unseen(0)", never.unseen(0), 1);
        check.due("unseen(1)", never.unseen(1), 0);
        check.due("unseen(2)", never.unseen(2), 0);
        check.due("unseen(3)", never.unseen(3), 1);
        check.due("code() behind unseen()", never.code(Kit.END, 0, 0, 0), 2);
        // Of the empty input alone the first byte is below 0; of 255 alone it is 255.
        ShrinkBench x = Kit.with(
                Kit.in(Kit.NEXT, 0, 0, 0), Kit.in(Kit.IF_LESS, 0, 7, 79), Kit.in(Kit.SET, 1, 255, 0),
                Kit.in(Kit.IF_SAME, 0, 1, 79), Kit.in(Kit.IF_SAME, 0, 7, 79), Kit.in(Kit.IF_LESS, 1, 0, 79));
        check.due("unseen(3), by no byte", x.unseen(3), 0);
        check.due("unseen(2)", x.unseen(2), 0);
        check.due("unseen(7), by the byte 255", x.unseen(7), 0);
        check.due("unseen(9), by the byte 0", x.unseen(9), 0);
        check.due("unseen(11), by a byte above 255", x.unseen(11), 1);
        check.due("unseen(10)", x.unseen(10), 0);
    }

    private static void unseenByAtMostOneByte() {
        check.by("no INPUT of at most one BYTE reaches a BRANCH");
        ShrinkBench x = ofLength(2, 2);
        Kit.attempt(x, 0, 8, 9);
        check.due("turns(7)", x.turns(7), 1);
        check.due("unseen(7), by two bytes alone", x.unseen(7), 1);
        check.due("unseen(6)", x.unseen(6), 0);
        check.tape("behind unseen()", x, 8, 9);
        check.due("about(0, 4)", x.about(0, 4), 1);
        check.due("turns(7), the latest run stays", x.turns(7), 1);
    }

    private static void unseenNumbers() {
        check.by("NONE: no op 11, 12 at its PLACE.");
        ShrinkBench none = new ShrinkBench();
        check.due("unseen(0) of no instructions", none.unseen(0), NONE);
        check.due("unseen(1) of no instructions", none.unseen(1), NONE);
        for (int op = 0; op <= 17; op++) {
            ShrinkBench x = Kit.with(Kit.in(op, 0, 0, 0));
            boolean branches = op == 11 || op == 12;
            check.due("unseen(0) of op " + op, x.unseen(0), !branches ? NONE : op == 11 ? 0 : 1);
            check.due("unseen(1) of op " + op, x.unseen(1), !branches ? NONE : op == 11 ? 1 : 0);
            for (int branch : new int[] {MIN, MIN + 1, -2, -1, 2, 3, 158, 159, 160, 161, MAX}) {
                check.due("unseen(" + branch + ")", x.unseen(branch), NONE);
            }
        }
        ShrinkBench full = new ShrinkBench();
        for (int place = 0; place < 80; place++) {
            full.code(Kit.IF_SAME, 0, 0, 79);
        }
        check.due("unseen(158)", full.unseen(158), 1);
        check.due("unseen(159)", full.unseen(159), 0);
        check.due("unseen(160)", full.unseen(160), NONE);
        check.due("unseen(3), never come to", full.unseen(3), 1);
        full.wipe();
        check.due("unseen(159) behind wipe()", full.unseen(159), NONE);
    }
}
