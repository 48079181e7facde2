import java.util.ArrayList;
import java.util.List;

/** What the tests often do with a ShrinkBench. */
final class Kit {
    static final int SET = 0, COPY = 1, ADD = 2, SUBTRACT = 3, MULTIPLY = 4, DIVIDE = 5;
    static final int NEXT = 6, PICK = 7, COUNT = 8, STORE = 9, LOAD = 10;
    static final int IF_LESS = 11, IF_SAME = 12, JUMP = 13;
    static final int CALL = 14, RETURN = 15, CHECK = 16, END = 17;

    private Kit() {
    }

    /** A new object with these instructions, each a row of op, a, b, c. */
    static ShrinkBench with(int[]... instructions) {
        ShrinkBench x = new ShrinkBench();
        load(x, instructions);
        return x;
    }

    static void load(ShrinkBench x, int[]... instructions) {
        for (int[] i : instructions) {
            int place = x.code(i[0], i[1], i[2], i[3]);
            if (place < 0) {
                throw new IllegalStateException("an instruction was refused with " + place);
            }
        }
    }

    static int[] in(int op, int a, int b, int c) {
        return new int[] {op, a, b, c};
    }

    /** Makes the tape anew of these bytes. */
    static void tape(ShrinkBench x, int... bytes) {
        x.keep(0);
        for (int b : bytes) {
            x.feed(b);
        }
    }

    /** The bytes of the tape, as a text. */
    static String tapeOf(ShrinkBench x) {
        List<Integer> bytes = new ArrayList<>();
        // One more than a tape may have, so that a longer one is seen and this still ends.
        for (int i = 0; i < 25 && x.at(i) != ShrinkBench.NONE; i++) {
            bytes.add(x.at(i));
        }
        return bytes.toString();
    }

    static int attempt(ShrinkBench x, int bench, int... bytes) {
        tape(x, bytes);
        return x.attempt(bench);
    }

    static int run(ShrinkBench x, int... bytes) {
        tape(x, bytes);
        return x.run();
    }
}
