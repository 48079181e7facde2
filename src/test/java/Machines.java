/** Machines that several tests run. */
final class Machines {
    private Machines() {
    }

    /** Goes to place 6 if the first byte is below 10; fails there, or else at 4, if the second is 0. */
    static ShrinkBench twoWays() {
        return Kit.with(
                Kit.in(Kit.NEXT, 0, 0, 0), Kit.in(Kit.NEXT, 1, 0, 0), Kit.in(Kit.SET, 2, 10, 0),
                Kit.in(Kit.IF_LESS, 0, 2, 6), Kit.in(Kit.CHECK, 1, 0, 0), Kit.in(Kit.END, 0, 0, 0),
                Kit.in(Kit.CHECK, 1, 0, 0));
    }

    /** Branch 5 has as many turns as there are bytes, branch 4 has one. */
    static ShrinkBench loopOverBytes() {
        return Kit.with(
                Kit.in(Kit.NEXT, 0, 0, 0), Kit.in(Kit.SET, 1, -1, 0), Kit.in(Kit.IF_LESS, 1, 0, 0));
    }

    /** Each byte below 37 goes through a branch of its own; then comes the next byte. */
    static ShrinkBench manyReaches() {
        ShrinkBench x = Kit.with(
                Kit.in(Kit.SET, 2, 1, 0), Kit.in(Kit.NEXT, 0, 0, 0), Kit.in(Kit.SET, 1, 0, 0),
                Kit.in(Kit.IF_LESS, 0, 1, 79));
        for (int i = 0; i < 37; i++) {
            Kit.load(x, Kit.in(Kit.IF_SAME, 0, 1, 1), Kit.in(Kit.ADD, 1, 2, 0));
        }
        return x;
    }

    /** Of manyReaches(): 40 inputs that come to the pool, in 124 calls. */
    static void fillPool(Check check, ShrinkBench x, int bench) {
        for (int i = 0; i < 37; i++) {
            check.due("attempt of byte " + i, Kit.attempt(x, bench, i), 1);
        }
        for (int n = 2; n <= 8; n *= 2) {
            check.due("attempt of " + n + " bytes 0", Kit.attempt(x, bench, new int[n]), 1);
        }
    }

    /** Byte i below 22 fails with kind 1 at place 47 + i. */
    static ShrinkBench manyFaults() {
        ShrinkBench x = Kit.with(Kit.in(Kit.NEXT, 0, 0, 0), Kit.in(Kit.SET, 2, 1, 0));
        for (int i = 0; i < 22; i++) {
            Kit.load(x, Kit.in(Kit.IF_SAME, 0, 1, 47 + i), Kit.in(Kit.ADD, 1, 2, 0));
        }
        Kit.load(x, Kit.in(Kit.END, 0, 0, 0));
        for (int i = 0; i < 22; i++) {
            Kit.load(x, Kit.in(Kit.DIVIDE, 3, 7, 0));
        }
        return x;
    }

    /**
     * Bytes choose calls: at each level a byte 0 calls from place 4, another one from place 6; where
     * there is no byte more the check at 8 fails.
     */
    static ShrinkBench callTree() {
        return Kit.with(
                Kit.in(Kit.SET, 1, -1, 0), Kit.in(Kit.NEXT, 0, 0, 0), Kit.in(Kit.IF_SAME, 0, 1, 8),
                Kit.in(Kit.IF_LESS, 7, 0, 6), Kit.in(Kit.CALL, 0, 0, 1), Kit.in(Kit.END, 0, 0, 0),
                Kit.in(Kit.CALL, 0, 0, 1), Kit.in(Kit.END, 0, 0, 0), Kit.in(Kit.CHECK, 7, 0, 0));
    }

    /** Counts down from the first byte: 2 + 2 * byte instructions, and the told ones behind. */
    static ShrinkBench countdown(int behind) {
        int[][] rows = new int[4 + behind][];
        rows[0] = Kit.in(Kit.SET, 1, 1, 0);
        rows[1] = Kit.in(Kit.NEXT, 0, 0, 0);
        rows[2] = Kit.in(Kit.SUBTRACT, 0, 1, 0);
        rows[3] = Kit.in(Kit.IF_LESS, 7, 0, 2);
        for (int place = 4; place < rows.length; place++) {
            rows[place] = Kit.in(Kit.SET, 2, place, 0);
        }
        return Kit.with(rows);
    }

    /** Fails with kind 4 at place 3 if the first byte is not below a number. */
    static ShrinkBench notBelow(int number) {
        return Kit.with(
                Kit.in(Kit.NEXT, 0, 0, 0), Kit.in(Kit.SET, 1, number, 0), Kit.in(Kit.IF_LESS, 0, 1, 4),
                Kit.in(Kit.CHECK, 7, 0, 0));
    }
}
