/** Promises 1 to 5: a new object, code, wipe, instruction, status. */
public final class ProgramTest {
    private static final int NONE = ShrinkBench.NONE;
    private static final int BAD = ShrinkBench.BAD;
    private static final int STATE = ShrinkBench.STATE;
    private static final int FULL = ShrinkBench.FULL;
    private static final Check check = new Check("ProgramTest");

    public static void main(String[] args) {
        newObject();
        codeAnswersPlaces();
        codeTakesWhatEachOpNames();
        codeIsRefusedOnceTried();
        codeIsRefusedWhenFull();
        refusalsHaveAnOrder();
        wipeEmptiesAll();
        wipeLeavesTheTapeAndTheLatestRun();
        instructionAndStatus();
        check.end();
    }

    private static void newObject() {
        ShrinkBench x = new ShrinkBench();
        check.due("status()", x.status(), 0);
        check.due("runs()", x.runs(), 0);
        check.due("at(0)", x.at(0), NONE);
        for (int what = 0; what <= 4; what++) {
            check.due("told(" + what + ")", x.told(what), what == 1 ? NONE : 0);
            for (int bench = 0; bench < 2; bench++) {
                check.due("about(" + bench + ", " + what + ")", x.about(bench, what), 0);
            }
        }
        for (int r = 0; r < 8; r++) {
            check.due("register(" + r + ")", x.register(r), 0);
        }
        for (int branch = 0; branch < 160; branch++) {
            check.due("turns(" + branch + ")", x.turns(branch), 0);
            check.due("covered(0, " + branch + ", 1)", x.covered(0, branch, 1), 0);
        }
        check.due("called(0)", x.called(0), NONE);
        check.due("pool(0, 0)", x.pool(0, 0), NONE);
        check.due("fault(1, 0, 0)", x.fault(1, 0, 0), NONE);
        check.due("instruction(0, 0)", x.instruction(0, 0), NONE);
        check.due("wipe()", x.wipe(), 0);
        check.due("run()", x.run(), 0);
    }

    private static void codeAnswersPlaces() {
        ShrinkBench x = new ShrinkBench();
        for (int place = 0; place < 80; place++) {
            check.due("code at " + place, x.code(17, 0, 0, 0), place);
        }
    }

    /** For each op the letters that it names: r a register, c a place, n any number, - only 0. */
    private static void codeTakesWhatEachOpNames() {
        String[] named = {
            "rn-", "rr-", "rr-", "rr-", "rr-", "rr-", "r--", "rr-", "r--", "rr-", "rr-",
            "rrc", "rrc", "--c", "--c", "---", "r--", "---"};
        int[] numbers = {Integer.MIN_VALUE, -2, -1, 0, 1, 6, 7, 8, 9, 78, 79, 80, 81, Integer.MAX_VALUE};
        for (int op = 0; op < 18; op++) {
            for (int part = 0; part < 3; part++) {
                for (int number : numbers) {
                    int[] abc = new int[3];
                    abc[part] = number;
                    int want = fits(named[op].charAt(part), number) ? 0 : BAD;
                    String call = "code(" + op + ", " + abc[0] + ", " + abc[1] + ", " + abc[2] + ")";
                    check.due(call, new ShrinkBench().code(op, abc[0], abc[1], abc[2]), want);
                }
            }
        }
        for (int op : new int[] {Integer.MIN_VALUE, -1, 18, 19, Integer.MAX_VALUE}) {
            check.due("code(" + op + ", 0, 0, 0)", new ShrinkBench().code(op, 0, 0, 0), BAD);
        }
    }

    private static boolean fits(char letter, int number) {
        switch (letter) {
            case 'n':
                return true;
            case 'r':
                return number >= 0 && number <= 7;
            case 'c':
                return number >= 0 && number <= 79;
            default:
                return number == 0;
        }
    }

    private static void codeIsRefusedOnceTried() {
        for (int bench = 0; bench < 2; bench++) {
            ShrinkBench x = Kit.with(Kit.in(17, 0, 0, 0));
            x.run();
            check.due("code behind run()", x.code(17, 0, 0, 0), 1);
            x.attempt(2);
            check.due("code behind a refused attempt()", x.code(17, 0, 0, 0), 2);
            x.merge(bench);
            check.due("code behind merge() of nothing", x.code(17, 0, 0, 0), 3);
            x.attempt(bench);
            check.due("code behind attempt(" + bench + ")", x.code(17, 0, 0, 0), STATE);
            check.due("instruction(4, 0)", x.instruction(4, 0), NONE);
            x.wipe();
            check.due("code behind wipe()", x.code(17, 0, 0, 0), 0);
        }
    }

    private static void codeIsRefusedWhenFull() {
        ShrinkBench x = new ShrinkBench();
        for (int place = 0; place < 80; place++) {
            x.code(0, 1, place, 0);
        }
        check.due("code, the 81st", x.code(17, 0, 0, 0), FULL);
        check.due("instruction(79, 2)", x.instruction(79, 2), 79);
        check.due("instruction(80, 0)", x.instruction(80, 0), NONE);
        check.due("wipe()", x.wipe(), 80);
        check.due("code behind wipe()", x.code(17, 0, 0, 0), 0);
    }

    private static void refusalsHaveAnOrder() {
        ShrinkBench x = new ShrinkBench();
        for (int place = 0; place < 80; place++) {
            x.code(17, 0, 0, 0);
        }
        check.due("code, bad and full", x.code(18, 0, 0, 0), BAD);
        check.due("code, full", x.code(17, 0, 0, 0), FULL);
        x.attempt(1);
        check.due("code, bad, tried and full", x.code(1, 8, 0, 0), BAD);
        check.due("code, tried and full", x.code(17, 0, 0, 0), STATE);
    }

    private static void wipeEmptiesAll() {
        ShrinkBench x = Kit.with(Kit.in(12, 0, 0, 2), Kit.in(17, 0, 0, 0), Kit.in(16, 0, 0, 0));
        check.due("attempt(0)", x.attempt(0), 3);
        check.due("attempt(1)", x.attempt(1), 3);
        check.due("wipe()", x.wipe(), 3);
        for (int bench = 0; bench < 2; bench++) {
            for (int what = 0; what <= 4; what++) {
                check.due("about(" + bench + ", " + what + ") behind wipe()", x.about(bench, what), 0);
            }
            check.due("covered behind wipe()", x.covered(bench, 1, 1), 0);
            check.due("pool behind wipe()", x.pool(bench, 0), NONE);
            check.due("first behind wipe()", x.first(bench, 0), NONE);
            check.due("fault behind wipe()", x.fault(bench, 0, 0), NONE);
            check.due("cut behind wipe()", x.cut(bench, 0), NONE);
            check.due("least behind wipe()", x.least(bench, 0), NONE);
        }
        check.due("unseen behind wipe()", x.unseen(0), NONE);
        check.due("instruction behind wipe()", x.instruction(0, 0), NONE);
        check.due("wipe() once more", x.wipe(), 0);
        Kit.load(x, Kit.in(16, 3, 0, 0));
        check.due("attempt of a new machine", x.attempt(0), 2);
        check.due("fault(0, 0, 1)", x.fault(0, 0, 1), 0);
        check.due("fault(0, 0, 4)", x.fault(0, 0, 4), 1);
    }

    private static void wipeLeavesTheTapeAndTheLatestRun() {
        ShrinkBench x = Kit.with(
                Kit.in(0, 5, 7, 0), Kit.in(12, 0, 1, 2), Kit.in(14, 0, 0, 3), Kit.in(16, 0, 0, 0));
        Kit.attempt(x, 0, 9, 8);
        x.cut(0, 0);
        Kit.tape(x, 9, 8);
        check.due("runs()", x.runs(), 2);
        check.due("wipe()", x.wipe(), 4);
        check.holds("the tape stays: " + Kit.tapeOf(x), Kit.tapeOf(x).equals("[9, 8]"));
        check.due("told(0)", x.told(0), 4);
        check.due("told(1)", x.told(1), 3);
        check.due("called(0)", x.called(0), 2);
        check.due("register(5)", x.register(5), 7);
        check.due("turns(3)", x.turns(3), 1);
        check.due("runs() behind wipe()", x.runs(), 2);
    }

    private static void instructionAndStatus() {
        ShrinkBench x = Kit.with(Kit.in(0, 3, -1, 0), Kit.in(11, 1, 2, 79));
        int[][] rows = {{0, 3, -1, 0}, {11, 1, 2, 79}};
        for (int place = 0; place < 2; place++) {
            for (int what = 0; what < 4; what++) {
                check.due("instruction(0, 9)", x.instruction(0, 9), NONE);
                check.due("status()", x.status(), NONE);
                String call = "instruction(" + place + ", " + what + ")";
                check.due(call, x.instruction(place, what), rows[place][what]);
                check.due("status() behind " + call, x.status(), 0);
            }
        }
        int[][] none = {
            {-1, 0}, {2, 0}, {0, -1}, {0, 4}, {80, 0}, {Integer.MIN_VALUE, 0}, {Integer.MAX_VALUE, 0},
            {0, Integer.MIN_VALUE}, {0, Integer.MAX_VALUE}, {1 << 30, 0}};
        for (int[] n : none) {
            x.instruction(0, 0);
            String call = "instruction(" + n[0] + ", " + n[1] + ")";
            check.due(call, x.instruction(n[0], n[1]), NONE);
            check.due("status() behind " + call, x.status(), NONE);
        }
        x.at(-1);
        x.run();
        x.wipe();
        check.due("status() stays", x.status(), NONE);
        check.due("register(7)", x.register(7), 0);
        check.due("status() behind register(7)", x.status(), 0);
        x.told(9);
        check.due("status() behind a refusal of another call", x.status(), 0);
        check.due("register(8)", x.register(8), NONE);
        check.due("status() behind register(8)", x.status(), NONE);
    }
}
