import java.util.Arrays;

/** The sentences about the tape and the changes that name an edge: promises 6 to 9, and part 2. */
public final class TapeEdgesTest {
    private static final int NONE = ShrinkBench.NONE;
    private static final int BAD = ShrinkBench.BAD;
    private static final int FULL = ShrinkBench.FULL;
    private static final int MIN = Integer.MIN_VALUE;
    private static final int MAX = Integer.MAX_VALUE;
    private static final int MOST = 1_000_000_000;
    private static final Check check = new Check("TapeEdgesTest");

    public static void main(String[] args) {
        feedTakesBytes();
        feedOfAFullTape();
        keepOfAPart();
        atAPlace();
        numbersOfAChange();
        benchOfAChange();
        kindOfAChange();
        bitIsTurned();
        byteBecomes();
        bytesGo();
        bytesComeOnceMore();
        byteComesAhead();
        byteIsMoreOrLess();
        crossWithAPoolInput();
        crossTakesThePoolOfTheBench();
        crossWithOneOfForty();
        beyond24Goes();
        nothingToChange();
        emptyPool();
        check.end();
    }

    private static void feedTakesBytes() {
        check.by("A BYTE comes behind THE TAPE's: how many. BAD: not 0 .. 255; FULL.");
        ShrinkBench x = new ShrinkBench();
        for (int b : new int[] {MIN, -256, -1, 256, 257, MAX}) {
            check.due("feed(" + b + ")", x.feed(b), BAD);
            check.tape("behind feed(" + b + ")", x);
        }
        check.due("feed(0)", x.feed(0), 1);
        check.due("feed(255)", x.feed(255), 2);
        check.due("feed(256)", x.feed(256), BAD);
        check.due("feed(-1)", x.feed(-1), BAD);
        check.tape("behind refusals", x, 0, 255);
    }

    private static void feedOfAFullTape() {
        check.by("A BYTE comes behind THE TAPE's: how many. BAD: not 0 .. 255; FULL.");
        ShrinkBench x = new ShrinkBench();
        for (int n = 1; n <= 24; n++) {
            check.due("feed, the byte " + n, x.feed(n), n);
        }
        int[] full = counted(24);
        check.due("feed, the 25th", x.feed(0), FULL);
        check.tape("behind the 25th", x, full);
        check.due("feed(256) of a full tape", x.feed(256), BAD);
        check.due("feed(-1) of a full tape", x.feed(-1), BAD);
        check.due("keep(23)", x.keep(23), 23);
        check.due("feed, the 24th once more", x.feed(99), 24);
        check.due("feed, the 25th once more", x.feed(99), FULL);
        full[23] = 99;
        check.tape("behind them", x, full);
    }

    private static void keepOfAPart() {
        check.by("THE TAPE keeps its first n BYTES: n. BAD.");
        ShrinkBench x = new ShrinkBench();
        check.due("keep(0) of an empty tape", x.keep(0), 0);
        check.due("keep(1) of an empty tape", x.keep(1), BAD);
        check.due("keep(-1) of an empty tape", x.keep(-1), BAD);
        Kit.tape(x, 5, 6, 7);
        for (int n : new int[] {MIN, -1, 4, 24, 25, MAX}) {
            check.due("keep(" + n + ") of 3", x.keep(n), BAD);
            check.tape("behind keep(" + n + ")", x, 5, 6, 7);
        }
        check.due("keep(3)", x.keep(3), 3);
        check.tape("behind keep(3)", x, 5, 6, 7);
        check.due("keep(1)", x.keep(1), 1);
        check.tape("behind keep(1)", x, 5);
        check.due("keep(2), they are gone", x.keep(2), BAD);
        check.due("keep(0)", x.keep(0), 0);
        check.tape("behind keep(0)", x);
        Kit.tape(x, counted(24));
        check.due("keep(25) of 24", x.keep(25), BAD);
        check.due("keep(24) of 24", x.keep(24), 24);
        check.tape("behind keep(24)", x, counted(24));
    }

    private static void atAPlace() {
        check.by("BYTE i of THE TAPE. NONE.");
        ShrinkBench x = new ShrinkBench();
        check.due("at(0) of an empty tape", x.at(0), NONE);
        check.due("at(-1) of an empty tape", x.at(-1), NONE);
        Kit.tape(x, 0, 255);
        check.due("at(0)", x.at(0), 0);
        check.due("at(1)", x.at(1), 255);
        for (int i : new int[] {MIN, -1, 2, 23, 24, MAX}) {
            check.due("at(" + i + ") of 2", x.at(i), NONE);
        }
        x.keep(1);
        check.due("at(1), it is gone", x.at(1), NONE);
        Kit.tape(x, counted(24));
        check.due("at(23)", x.at(23), 24);
        check.due("at(24)", x.at(24), NONE);
    }

    private static void numbersOfAChange() {
        check.by("A CHANGE of an INPUT by x, y (0 .. 10^9 each;");
        ShrinkBench x = new ShrinkBench();
        Kit.tape(x, 1, 2, 3);
        for (int kind = 0; kind <= 6; kind++) {
            for (int number : new int[] {MIN, -MOST, -1, MOST + 1, MAX}) {
                check.due("change(0, " + kind + ", " + number + ", 0)", x.change(0, kind, number, 0), BAD);
                check.due("change(1, " + kind + ", 0, " + number + ")", x.change(1, kind, 0, number), BAD);
            }
            check.tape("behind refusals", x, 1, 2, 3);
        }
        // 10^9 modulo 3, 4, 5 is 1, 0, 0; it is even, its lowest nine bits are 0.
        changed(0, MOST, MOST, new int[] {1, 2, 3}, 1, 3, 3);
        changed(1, MOST, MOST, new int[] {1, 2, 3}, 1, 0, 3);
        changed(2, MOST, MOST, new int[] {1, 2, 3}, 1, 3);
        changed(3, MOST, MOST, new int[] {1, 2, 3}, 1, 2, 2, 3);
        changed(4, MOST, MOST, new int[] {1, 2, 3}, 0, 1, 2, 3);
        changed(5, MOST, MOST, new int[] {1, 2, 3}, 1, 1, 3);
        changed(0, 0, 0, new int[] {1, 2, 3}, 0, 2, 3);
        changed(1, 0, 0, new int[] {1, 2, 3}, 0, 2, 3);
        changed(2, 0, 0, new int[] {1, 2, 3}, 2, 3);
        changed(3, 0, 0, new int[] {1, 2, 3}, 1, 1, 2, 3);
        changed(4, 0, 0, new int[] {1, 2, 3}, 0, 1, 2, 3);
        changed(5, 0, 0, new int[] {1, 2, 3}, 0, 2, 3);
    }

    private static void benchOfAChange() {
        check.by("THE TAPE is CHANGED (with the POOL of a bench): how many BYTES it has. NONE;"
                + " BAD: kind not 0 .. 6, x, y.");
        ShrinkBench x = new ShrinkBench();
        Kit.tape(x, 1, 2, 3);
        for (int bench : new int[] {MIN, -1, 2, MAX}) {
            for (int kind = -1; kind <= 7; kind++) {
                String call = "change(" + bench + ", " + kind + ", ..)";
                check.due(call, x.change(bench, kind, 0, 0), NONE);
                check.due(call + ", NONE ahead of BAD", x.change(bench, kind, -1, MOST + 1), NONE);
            }
        }
        check.tape("behind refusals", x, 1, 2, 3);
        check.due("change(0, 4, 0, 9)", x.change(0, 4, 0, 9), 4);
        check.due("change(1, 4, 0, 8)", x.change(1, 4, 0, 8), 5);
        check.tape("behind both", x, 8, 9, 1, 2, 3);
    }

    private static void kindOfAChange() {
        check.by("BAD: kind not 0 .. 6, x, y.");
        ShrinkBench x = new ShrinkBench();
        Kit.tape(x, 1, 2, 3);
        for (int kind : new int[] {MIN, -1, 7, 8, MAX}) {
            check.due("change(0, " + kind + ", 0, 0)", x.change(0, kind, 0, 0), BAD);
            check.due("change(1, " + kind + ", 0, 0)", x.change(1, kind, 0, 0), BAD);
        }
        check.tape("behind refusals", x, 1, 2, 3);
        Kit.tape(x);
        check.due("change of an empty tape, BAD as well", x.change(0, 7, 0, 0), BAD);
        check.due("change of an empty tape by -1", x.change(0, 0, -1, 0), BAD);
    }

    private static void bitIsTurned() {
        check.by("0 BYTE m: bit y modulo 8 is turned;");
        for (int y = 0; y < 17; y++) {
            changed(0, 1, y, new int[] {7, 0, 7}, 7, 1 << y % 8, 7);
            changed(0, 1, y, new int[] {7, 255, 7}, 7, 255 - (1 << y % 8), 7);
        }
        changed(0, 2, 7, new int[] {1, 2, 3}, 1, 2, 131);
        changed(0, 3, 7, new int[] {1, 2, 3}, 129, 2, 3);
        changed(0, 8, 0, new int[] {1, 2, 3}, 1, 2, 2);
        changed(0, 5, 0, new int[] {6}, 7);
    }

    private static void byteBecomes() {
        check.by("1 BYTE m becomes y modulo 256;");
        changed(1, 0, 255, new int[] {1, 2}, 255, 2);
        changed(1, 1, 256, new int[] {1, 2}, 1, 0);
        changed(1, 2, 257, new int[] {7, 2}, 1, 2);
        changed(1, 3, 511, new int[] {1, 2}, 1, 255);
        changed(1, 9, 4, new int[] {1}, 4);
        int[] full = counted(24);
        int[] want = counted(24);
        want[23] = 200;
        changed(1, 23, 200, full, want);
        changed(1, 47, 200, full, want);
        want = counted(24);
        want[0] = 200;
        changed(1, 24, 200, full, want);
    }

    private static void bytesGo() {
        check.by("2 BYTES from m on go, 1 more than y modulo 4 (as far as there are);");
        int[] six = counted(6);
        changed(2, 0, 0, six, 2, 3, 4, 5, 6);
        changed(2, 0, 1, six, 3, 4, 5, 6);
        changed(2, 0, 2, six, 4, 5, 6);
        changed(2, 0, 3, six, 5, 6);
        changed(2, 0, 4, six, 2, 3, 4, 5, 6);
        changed(2, 2, 3, six, 1, 2);
        changed(2, 3, 3, six, 1, 2, 3);
        changed(2, 5, 3, six, 1, 2, 3, 4, 5);
        changed(2, 5, 0, six, 1, 2, 3, 4, 5);
        changed(2, 6, 0, six, 2, 3, 4, 5, 6);
        changed(2, 0, 0, new int[] {1}, new int[0]);
        changed(2, 7, 3, new int[] {1}, new int[0]);
        changed(2, 0, 3, new int[] {1, 2, 3}, new int[0]);
        changed(2, 0, 3, new int[] {1, 2, 3, 4}, new int[0]);
        changed(2, 0, 3, new int[] {1, 2, 3, 4, 5}, 5);
    }

    private static void bytesComeOnceMore() {
        check.by("3 BYTES from m on, 1 more than y modulo 4 (likewise), come once more behind these;");
        int[] five = counted(5);
        changed(3, 0, 0, five, 1, 1, 2, 3, 4, 5);
        changed(3, 0, 1, five, 1, 2, 1, 2, 3, 4, 5);
        changed(3, 0, 2, five, 1, 2, 3, 1, 2, 3, 4, 5);
        changed(3, 0, 3, five, 1, 2, 3, 4, 1, 2, 3, 4, 5);
        changed(3, 0, 4, five, 1, 1, 2, 3, 4, 5);
        changed(3, 1, 3, five, 1, 2, 3, 4, 5, 2, 3, 4, 5);
        changed(3, 2, 3, five, 1, 2, 3, 4, 5, 3, 4, 5);
        changed(3, 4, 3, five, 1, 2, 3, 4, 5, 5);
        changed(3, 4, 0, five, 1, 2, 3, 4, 5, 5);
        changed(3, 5, 0, five, 1, 1, 2, 3, 4, 5);
        changed(3, 3, 3, new int[] {8}, 8, 8);
    }

    private static void byteComesAhead() {
        check.by("4 a BYTE y modulo 256 comes ahead of BYTE x modulo (n + 1);");
        changed(4, 0, 9, new int[] {}, 9);
        changed(4, MOST, 255, new int[] {}, 255);
        changed(4, 0, 9, new int[] {1, 2}, 9, 1, 2);
        changed(4, 1, 9, new int[] {1, 2}, 1, 9, 2);
        changed(4, 2, 9, new int[] {1, 2}, 1, 2, 9);
        changed(4, 3, 9, new int[] {1, 2}, 9, 1, 2);
        changed(4, 5, 9, new int[] {1, 2}, 1, 2, 9);
        changed(4, 0, 256, new int[] {1}, 0, 1);
        changed(4, 0, 511, new int[] {1}, 255, 1);
        changed(4, 23, 99, counted(23), put(counted(24), 23, 99));
    }

    private static void byteIsMoreOrLess() {
        check.by("5 BYTE m is more by 1 (y odd), or less, modulo 256;");
        changed(5, 0, 1, new int[] {254, 9}, 255, 9);
        changed(5, 0, 1, new int[] {255, 9}, 0, 9);
        changed(5, 0, 0, new int[] {1, 9}, 0, 9);
        changed(5, 0, 0, new int[] {0, 9}, 255, 9);
        changed(5, 1, 3, new int[] {1, 9}, 1, 10);
        changed(5, 1, 2, new int[] {1, 9}, 1, 8);
        changed(5, 2, MOST - 1, new int[] {1, 9}, 2, 9);
        changed(5, 3, MOST, new int[] {1, 9}, 1, 8);
    }

    /** Bench 0 has the pool [1, 2, 3, 4], [], bench 1 has the pool [6, 7]. */
    private static ShrinkBench withPools() {
        ShrinkBench x = Kit.with(
                Kit.in(Kit.COUNT, 0, 0, 0), Kit.in(Kit.SET, 1, 2, 0), Kit.in(Kit.IF_LESS, 0, 1, 4));
        check.due("attempt of [1, 2, 3, 4]", Kit.attempt(x, 0, 1, 2, 3, 4), 1);
        check.due("attempt of []", Kit.attempt(x, 0), 1);
        check.due("attempt of [6, 7]", Kit.attempt(x, 1, 6, 7), 1);
        return x;
    }

    private static void crossed(ShrinkBench s, int bench, int x, int y, int[] tape, int... want) {
        Kit.tape(s, tape);
        String call = "change(" + bench + ", 6, " + x + ", " + y + ")";
        check.due(call, s.change(bench, 6, x, y), want.length);
        check.tape("behind " + call, s, want);
    }

    private static void crossWithAPoolInput() {
        check.by("6 its first x modulo (n + 1) BYTES, and behind them those of POOL INPUT y modulo"
                + " (how many there are) from that place on.");
        ShrinkBench s = withPools();
        int[] nines = {9, 9, 9};
        crossed(s, 0, 0, 0, nines, 1, 2, 3, 4);
        crossed(s, 0, 1, 0, nines, 9, 2, 3, 4);
        crossed(s, 0, 3, 0, nines, 9, 9, 9, 4);
        crossed(s, 0, 4, 0, nines, 1, 2, 3, 4);
        crossed(s, 0, 7, 2, nines, 9, 9, 9, 4);
        crossed(s, 0, 0, 1, nines);
        crossed(s, 0, 2, 1, nines, 9, 9);
        crossed(s, 0, 3, MOST - 1, nines, 9, 9, 9);
        crossed(s, 0, MOST, MOST, nines, 1, 2, 3, 4);
        crossed(s, 0, 5, 0, new int[] {}, 1, 2, 3, 4);
        crossed(s, 0, 5, 1, new int[] {});
        crossed(s, 0, 4, 0, counted(6), 1, 2, 3, 4);
        crossed(s, 0, 5, 0, counted(6), 1, 2, 3, 4, 5);
        check.due("pool(0, 0), it stays", s.pool(0, 0), 4);
        check.tape("behind pool(0, 0)", s, 1, 2, 3, 4);
    }

    private static void crossTakesThePoolOfTheBench() {
        check.by("THE TAPE is CHANGED (with the POOL of a bench)");
        ShrinkBench s = withPools();
        crossed(s, 1, 0, 0, new int[] {9, 9}, 6, 7);
        crossed(s, 1, 1, 1, new int[] {9, 9}, 9, 7);
        crossed(s, 1, 2, MOST, new int[] {9, 9}, 9, 9);
        crossed(s, 0, 1, 0, new int[] {9, 9}, 9, 2, 3, 4);
    }

    private static void crossWithOneOfForty() {
        check.by("POOL INPUT y modulo (how many there are)");
        ShrinkBench s = Machines.manyReaches();
        Machines.fillPool(check, s, 0);
        crossed(s, 0, 0, 36, new int[] {99}, 36);
        crossed(s, 0, 0, 37, new int[] {99}, 0, 0);
        crossed(s, 0, 0, 39, new int[] {99}, 0, 0, 0, 0, 0, 0, 0, 0);
        crossed(s, 0, 0, 41, new int[] {99}, 1);
    }

    private static void beyond24Goes() {
        check.by("What is beyond 24 BYTES goes.");
        int[] full = counted(24);
        changed(4, 0, 99, full, join(new int[] {99}, counted(23)));
        changed(4, 23, 99, full, put(counted(24), 23, 99));
        changed(4, 24, 99, full, full);
        changed(4, 25, 99, full, join(new int[] {99}, counted(23)));
        changed(3, 0, 0, full, join(new int[] {1}, counted(23)));
        changed(3, 0, 3, full, join(new int[] {1, 2, 3, 4}, counted(20)));
        changed(3, 20, 3, full, full);
        changed(3, 19, 3, full, put(full, 23, 20));
        changed(3, 23, 0, full, full);
        changed(3, 0, 1, counted(22), join(new int[] {1, 2}, counted(22)));
        changed(3, 0, 2, counted(22), join(new int[] {1, 2, 3}, counted(21)));
        ShrinkBench s = Machines.loopOverBytes();
        check.due("attempt of 24 bytes", Kit.attempt(s, 0, full), 1);
        crossed(s, 0, 0, 0, new int[] {50}, full);
        crossed(s, 0, 24, 0, full, full);
        crossed(s, 0, 1, 0, new int[] {50}, put(full, 0, 50));
    }

    private static void nothingToChange() {
        check.by("(0 to 3, 5 with n 0, 6 with an empty POOL: it stays.)");
        for (int kind : new int[] {0, 1, 2, 3, 5}) {
            for (int number : new int[] {0, 1, 7, MOST}) {
                changed(kind, number, number, new int[0], new int[0]);
            }
        }
        ShrinkBench s = withPools();
        Kit.tape(s);
        for (int kind : new int[] {0, 1, 2, 3, 5}) {
            check.due("change(0, " + kind + ", 1, 1), there is a pool", s.change(0, kind, 1, 1), 0);
        }
    }

    private static void emptyPool() {
        check.by("6 with an empty POOL: it stays.");
        changed(6, 0, 0, new int[] {1, 2, 3}, 1, 2, 3);
        changed(6, 2, MOST, new int[] {1, 2, 3}, 1, 2, 3);
        changed(6, MOST, 1, new int[0], new int[0]);
        changed(6, 0, 0, counted(24), counted(24));
        ShrinkBench s = Machines.loopOverBytes();
        Kit.attempt(s, 1, 5, 5, 5);
        crossed(s, 0, 1, 0, new int[] {1, 2}, 1, 2);
        crossed(s, 1, 1, 0, new int[] {1, 2}, 1, 5, 5);
        s.wipe();
        crossed(s, 1, 1, 0, new int[] {1, 2}, 1, 2);
    }

    /** Changes a tape with the empty pools of both benches. */
    private static void changed(int kind, int x, int y, int[] tape, int... want) {
        for (int bench = 0; bench < 2; bench++) {
            ShrinkBench s = new ShrinkBench();
            Kit.tape(s, tape);
            String call = "change(" + bench + ", " + kind + ", " + x + ", " + y + ")";
            check.due(call, s.change(bench, kind, x, y), want.length);
            check.tape("behind " + call, s, want);
        }
    }

    /** 1, 2 and so on. */
    private static int[] counted(int n) {
        int[] bytes = new int[n];
        Arrays.setAll(bytes, i -> i + 1);
        return bytes;
    }

    private static int[] put(int[] bytes, int i, int b) {
        int[] other = bytes.clone();
        other[i] = b;
        return other;
    }

    private static int[] join(int[] left, int[] right) {
        int[] both = Arrays.copyOf(left, left.length + right.length);
        System.arraycopy(right, 0, both, left.length, right.length);
        return both;
    }
}
