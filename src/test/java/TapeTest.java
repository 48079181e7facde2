/** Promises 6 to 9: feed, keep, at, change. */
public final class TapeTest {
    private static final int NONE = ShrinkBench.NONE;
    private static final int BAD = ShrinkBench.BAD;
    private static final int FULL = ShrinkBench.FULL;
    private static final int MOST = 1_000_000_000;
    private static final Check check = new Check("TapeTest");

    public static void main(String[] args) {
        feed();
        keep();
        at();
        changeOfOneByte();
        changeOfSeveralBytes();
        changeByInsertion();
        changeByThePool();
        changeDropsWhatIsBeyond24();
        changeOfNothing();
        changeRefusals();
        check.end();
    }

    private static void feed() {
        ShrinkBench x = new ShrinkBench();
        check.due("feed(-1)", x.feed(-1), BAD);
        check.due("feed(256)", x.feed(256), BAD);
        check.due("feed(MIN)", x.feed(Integer.MIN_VALUE), BAD);
        check.due("feed(0)", x.feed(0), 1);
        check.due("feed(255)", x.feed(255), 2);
        for (int n = 3; n <= 24; n++) {
            check.due("feed(" + n + ")", x.feed(n), n);
        }
        check.due("feed(7), the 25th", x.feed(7), FULL);
        check.due("feed(256), the 25th", x.feed(256), BAD);
        check.due("at(1)", x.at(1), 255);
        check.due("at(23)", x.at(23), 24);
        check.due("at(24)", x.at(24), NONE);
    }

    private static void keep() {
        ShrinkBench x = new ShrinkBench();
        check.due("keep(0) of nothing", x.keep(0), 0);
        check.due("keep(1) of nothing", x.keep(1), BAD);
        Kit.tape(x, 5, 6, 7, 8);
        check.due("keep(5)", x.keep(5), BAD);
        check.due("keep(24)", x.keep(24), BAD);
        check.due("keep(-1)", x.keep(-1), BAD);
        check.due("keep(MIN)", x.keep(Integer.MIN_VALUE), BAD);
        check.due("keep(MAX)", x.keep(Integer.MAX_VALUE), BAD);
        check.due("keep(4)", x.keep(4), 4);
        check.tape("behind keep(4)", x, 5, 6, 7, 8);
        check.due("keep(2)", x.keep(2), 2);
        check.tape("behind keep(2)", x, 5, 6);
        check.due("keep(3) of 2", x.keep(3), BAD);
        check.due("feed(9)", x.feed(9), 3);
        check.tape("behind feed(9)", x, 5, 6, 9);
        check.due("keep(0)", x.keep(0), 0);
        check.tape("behind keep(0)", x);
    }

    private static void at() {
        ShrinkBench x = new ShrinkBench();
        Kit.tape(x, 5, 6);
        check.due("at(0)", x.at(0), 5);
        check.due("at(1)", x.at(1), 6);
        for (int i : new int[] {-1, 2, 23, 24, 25, Integer.MIN_VALUE, Integer.MAX_VALUE}) {
            check.due("at(" + i + ")", x.at(i), NONE);
        }
    }

    private static void changeOfOneByte() {
        for (int y = 0; y < 8; y++) {
            changed(0, 0, y, new int[] {0xA5, 1}, 0xA5 ^ 1 << y, 1);
        }
        changed(0, 1, 8, new int[] {4, 5, 6}, 4, 4, 6);
        changed(0, 5, 15, new int[] {4, 5, 6}, 4, 5, 6 ^ 128);
        changed(0, MOST, MOST, new int[] {4, 5, 6}, 4, 4, 6);
        changed(1, 0, 255, new int[] {4, 5}, 255, 5);
        changed(1, 3, 256, new int[] {4, 5}, 4, 0);
        changed(1, 2, 257 + 256, new int[] {4, 5}, 1, 5);
        changed(1, MOST, MOST, new int[] {4, 5, 6}, 4, 0, 6);
        changed(5, 1, 1, new int[] {4, 5}, 4, 6);
        changed(5, 1, 0, new int[] {4, 5}, 4, 4);
        changed(5, 2, 7, new int[] {255, 5}, 0, 5);
        changed(5, 3, 8, new int[] {255, 0}, 255, 255);
        changed(5, MOST, MOST, new int[] {7}, 6);
        changed(5, MOST - 1, MOST - 1, new int[] {7}, 8);
    }

    private static void changeOfSeveralBytes() {
        changed(2, 0, 0, new int[] {1, 2, 3, 4, 5, 6}, 2, 3, 4, 5, 6);
        changed(2, 1, 1, new int[] {1, 2, 3, 4, 5, 6}, 1, 4, 5, 6);
        changed(2, 7, 2, new int[] {1, 2, 3, 4, 5, 6}, 1, 5, 6);
        changed(2, 2, 7, new int[] {1, 2, 3, 4, 5, 6}, 1, 2);
        changed(2, 4, 3, new int[] {1, 2, 3, 4, 5, 6}, 1, 2, 3, 4);
        changed(2, 5, 4, new int[] {1, 2, 3, 4, 5, 6}, 1, 2, 3, 4, 5);
        changed(2, 0, 3, new int[] {1}, new int[0]);
        changed(3, 0, 0, new int[] {1, 2, 3}, 1, 1, 2, 3);
        changed(3, 1, 1, new int[] {1, 2, 3, 4}, 1, 2, 3, 2, 3, 4);
        changed(3, 5, 2, new int[] {1, 2, 3, 4}, 1, 2, 3, 4, 2, 3, 4);
        changed(3, 2, 3, new int[] {1, 2, 3, 4}, 1, 2, 3, 4, 3, 4);
        changed(3, 0, 7, new int[] {1, 2, 3, 4, 5}, 1, 2, 3, 4, 1, 2, 3, 4, 5);
        changed(3, 3, 8, new int[] {1, 2, 3, 4}, 1, 2, 3, 4, 4);
        changed(3, MOST, MOST, new int[] {1, 2, 3}, 1, 2, 2, 3);
    }

    private static void changeByInsertion() {
        changed(4, 0, 9, new int[] {}, 9);
        changed(4, 5, 256 + 9, new int[] {}, 9);
        changed(4, 0, 9, new int[] {1, 2}, 9, 1, 2);
        changed(4, 1, 255, new int[] {1, 2}, 1, 255, 2);
        changed(4, 2, 256, new int[] {1, 2}, 1, 2, 0);
        changed(4, 3, 9, new int[] {1, 2}, 9, 1, 2);
        changed(4, MOST, MOST, new int[] {1, 2}, 1, 0, 2);
    }

    /** Bench 0 has the pool [1, 2, 3, 4], [5]; bench 1 has the pool [6, 7]. */
    private static void changeByThePool() {
        int[][][] rows = {
            // tape, {bench, x, y}, due
            {{9, 9}, {0, 0, 0}, {1, 2, 3, 4}},
            {{9, 9}, {0, 1, 0}, {9, 2, 3, 4}},
            {{9, 9}, {0, 2, 2}, {9, 9, 3, 4}},
            {{9, 9}, {0, 3, 0}, {1, 2, 3, 4}},
            {{9, 9}, {0, 0, 1}, {5}},
            {{9, 9}, {0, 1, 3}, {9}},
            {{9, 9}, {0, 2, 1}, {9, 9}},
            {{}, {0, 7, 4}, {1, 2, 3, 4}},
            {{9, 9}, {1, 1, MOST}, {9, 7}},
            {{9, 9}, {1, MOST, 5}, {9, 7}},
            {{8, 9, 8, 9, 8, 9}, {0, 5, 0}, {8, 9, 8, 9, 8}},
        };
        ShrinkBench x = benchWithPools();
        for (int[][] row : rows) {
            Kit.tape(x, row[0]);
            String call = "change(" + row[1][0] + ", 6, " + row[1][1] + ", " + row[1][2] + ")";
            check.due(call, x.change(row[1][0], 6, row[1][1], row[1][2]), row[2].length);
            check.tape("behind " + call, x, row[2]);
        }
        check.due("pool(0, 0) stays", x.pool(0, 0), 4);
        check.tape("behind pool(0, 0)", x, 1, 2, 3, 4);
    }

    private static ShrinkBench benchWithPools() {
        ShrinkBench x = Kit.with(
                Kit.in(Kit.COUNT, 0, 0, 0), Kit.in(Kit.SET, 1, 2, 0), Kit.in(Kit.IF_LESS, 0, 1, 4));
        check.due("attempt of [1, 2, 3, 4]", Kit.attempt(x, 0, 1, 2, 3, 4), 1);
        check.due("attempt of [5]", Kit.attempt(x, 0, 5), 1);
        check.due("attempt of [6, 7]", Kit.attempt(x, 1, 6, 7), 1);
        return x;
    }

    private static void changeDropsWhatIsBeyond24() {
        int[] full = new int[24];
        for (int i = 0; i < 24; i++) {
            full[i] = i + 1;
        }
        int[] inserted = new int[24];
        int[] repeated = new int[24];
        for (int i = 0; i < 24; i++) {
            inserted[i] = i < 3 ? i + 1 : i == 3 ? 99 : i;
            repeated[i] = i < 20 ? i + 1 : i - 3;
        }
        changed(4, 3, 99, full, inserted);
        changed(4, 24, 99, full, full);
        changed(4, 25, 99, full, 99, 1, 2, 3, 4, 5, 6, 7, 8, 9, 10, 11, 12, 13, 14, 15, 16, 17, 18, 19,
                20, 21, 22, 23);
        changed(3, 16, 3, full, repeated);
        changed(3, 23, 3, full, full);
    }

    private static void changeOfNothing() {
        for (int kind : new int[] {0, 1, 2, 3, 5, 6}) {
            changed(kind, 7, 9, new int[0], new int[0]);
        }
        changed(6, 1, 1, new int[] {1, 2}, 1, 2);
        ShrinkBench x = benchWithPools();
        x.wipe();
        Kit.tape(x, 4, 5);
        check.due("change(0, 6, 1, 1) behind wipe()", x.change(0, 6, 1, 1), 2);
        check.tape("behind wipe()", x, 4, 5);
    }

    private static void changeRefusals() {
        ShrinkBench x = new ShrinkBench();
        Kit.tape(x, 1, 2, 3);
        int[][] none = {{-1, 0, 0, 0}, {2, 0, 0, 0}, {2, 7, -1, -1}, {Integer.MAX_VALUE, 0, 0, 0},
            {Integer.MIN_VALUE, 0, 0, 0}};
        for (int[] n : none) {
            check.due("change of no bench", x.change(n[0], n[1], n[2], n[3]), NONE);
        }
        for (int kind = 0; kind < 7; kind++) {
            check.due("change by x -1", x.change(0, kind, -1, 0), BAD);
            check.due("change by y -1", x.change(1, kind, 0, -1), BAD);
            check.due("change by x above", x.change(0, kind, MOST + 1, 0), BAD);
            check.due("change by y above", x.change(1, kind, 0, MOST + 1), BAD);
            check.due("change by MIN", x.change(1, kind, Integer.MIN_VALUE, 0), BAD);
        }
        check.due("change of kind -1", x.change(0, -1, 0, 0), BAD);
        check.due("change of kind 7", x.change(0, 7, 0, 0), BAD);
        check.tape("behind refusals", x, 1, 2, 3);
    }

    private static void changed(int kind, int x, int y, int[] tape, int... want) {
        for (int bench = 0; bench < 2; bench++) {
            ShrinkBench s = new ShrinkBench();
            Kit.tape(s, tape);
            String call = "change(" + bench + ", " + kind + ", " + x + ", " + y + ")";
            check.due(call, s.change(bench, kind, x, y), want.length);
            check.tape("behind " + call, s, want);
        }
    }
}
