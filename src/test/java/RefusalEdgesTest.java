import java.util.ArrayList;
import java.util.List;
import java.util.function.ToIntFunction;

/** The sentences of part 4, and of promises 1 to 5 and 10 to 14, that name an edge. */
public final class RefusalEdgesTest {
    private static final int NONE = ShrinkBench.NONE;
    private static final int BAD = ShrinkBench.BAD;
    private static final int STATE = ShrinkBench.STATE;
    private static final int FULL = ShrinkBench.FULL;
    private static final int MIN = Integer.MIN_VALUE;
    private static final int MAX = Integer.MAX_VALUE;
    private static final int[] NO_BENCH = {MIN, -1, 2, MAX};
    private static final int[] NO_FAULT = {MIN, -1, 3, 19, 20, MAX};
    private static final Check check = new Check("RefusalEdgesTest");
    /** Each byte calls; where there is no byte more it fails; a byte 100 goes on without end. */
    private static final int[][] SCENE = {
        Kit.in(Kit.SET, 1, 100, 0), Kit.in(Kit.NEXT, 0, 0, 0), Kit.in(Kit.IF_SAME, 0, 1, 2),
        Kit.in(Kit.ADD, 2, 0, 0), Kit.in(Kit.IF_LESS, 0, 7, 7), Kit.in(Kit.CALL, 0, 0, 1),
        Kit.in(Kit.END, 0, 0, 0), Kit.in(Kit.CHECK, 7, 0, 0)};

    /** A call with what it answers. */
    private record Call(String name, ToIntFunction<ShrinkBench> made, int due) {
    }

    public static void main(String[] args) {
        newObject();
        opsAndNumbers();
        codeOnceTried();
        codeOfAFullMachine();
        codeInOrder();
        wipeOfAll();
        wipeOfAFullMachine();
        partsOfAnInstruction();
        statusOfTwoCalls();
        runOfTheTape();
        toldAheadOfAnyRun();
        toldOfTheLatestRun();
        calledNumbers();
        registerNumbers();
        turnsNumbers();
        refusalsChangeNothing();
        refusalsOfFullThings();
        actsLeaveTheTape();
        actsLeaveTheLatestRun();
        check.end();
    }

    private static void newObject() {
        check.by("No INSTRUCTIONS, empty BENCHES and TAPE.");
        ShrinkBench x = new ShrinkBench();
        check.due("instruction(0, 0)", x.instruction(0, 0), NONE);
        check.tape("of a new object", x);
        for (int bench = 0; bench < 2; bench++) {
            for (int what = 0; what < 5; what++) {
                check.due("about(" + bench + ", " + what + ")", x.about(bench, what), 0);
            }
            check.due("pool(" + bench + ", 0)", x.pool(bench, 0), NONE);
            check.due("fault(" + bench + ", 0, 0)", x.fault(bench, 0, 0), NONE);
            check.due("first(" + bench + ", 0)", x.first(bench, 0), NONE);
            check.due("cut(" + bench + ", 0)", x.cut(bench, 0), NONE);
            check.due("least(" + bench + ", 0)", x.least(bench, 0), NONE);
            check.due("merge(" + bench + ")", x.merge(bench), 0);
        }
        check.due("unseen(0)", x.unseen(0), NONE);
        check.due("wipe()", x.wipe(), 0);
        check.due("code(), the first", x.code(Kit.END, 0, 0, 0), 0);
        check.due("instruction(0, 0) of another new object", new ShrinkBench().instruction(0, 0), NONE);
    }

    /** For each op what a, b and c may be at most; -1 where a number may be any. */
    private static void opsAndNumbers() {
        check.by("a and b are 0 .. 7 where they are a register (b of op 0 is any), c 0 .. 79 where told,"
                + " all others 0.");
        int[][] most = {
            {7, -1, 0}, {7, 7, 0}, {7, 7, 0}, {7, 7, 0}, {7, 7, 0}, {7, 7, 0}, {7, 0, 0}, {7, 7, 0}, {7, 0, 0},
            {7, 7, 0}, {7, 7, 0}, {7, 7, 79}, {7, 7, 79}, {0, 0, 79}, {0, 0, 79}, {0, 0, 0}, {7, 0, 0}, {0, 0, 0}};
        for (int op = 0; op <= 17; op++) {
            int[] highest = most[op].clone();
            highest[1] = highest[1] < 0 ? MAX : highest[1];
            coded(op, highest, 0);
            for (int part = 0; part < 3; part++) {
                boolean any = most[op][part] < 0;
                for (int number : new int[] {MIN, -1, most[op][part] + 1, 80, MAX}) {
                    int[] abc = highest.clone();
                    abc[part] = number;
                    coded(op, abc, any ? 0 : BAD);
                }
            }
        }
        check.by("BAD: op not 0 .. 17, a, b, c;");
        for (int op : new int[] {MIN, -1, 18, MAX}) {
            coded(op, new int[3], BAD);
        }
    }

    private static void coded(int op, int[] abc, int due) {
        ShrinkBench x = new ShrinkBench();
        String call = "code(" + op + ", " + abc[0] + ", " + abc[1] + ", " + abc[2] + ")";
        check.due(call, x.code(op, abc[0], abc[1], abc[2]), due);
        check.due("instruction(0, 0) behind " + call, x.instruction(0, 0), due == 0 ? op : NONE);
        check.due("wipe() behind " + call, x.wipe(), due == 0 ? 1 : 0);
    }

    private static void codeOnceTried() {
        check.by("STATE: some INPUT was TRIED; FULL.");
        for (int bench = 0; bench < 2; bench++) {
            ShrinkBench x = Kit.with(Kit.in(Kit.CHECK, 0, 0, 0));
            x.run();
            x.unseen(0);
            x.merge(bench);
            x.attempt(2);
            x.attempt(-1);
            check.due("code(), nothing was tried", x.code(Kit.END, 0, 0, 0), 1);
            x.attempt(bench);
            check.due("code(), tried in bench " + bench, x.code(Kit.END, 0, 0, 0), STATE);
            check.due("instruction(2, 0)", x.instruction(2, 0), NONE);
            x.wipe();
            check.due("code() behind wipe()", x.code(Kit.END, 0, 0, 0), 0);
        }
        ShrinkBench well = new ShrinkBench();
        check.due("attempt that comes to nothing", well.attempt(0), 0);
        check.due("code(), it was tried", well.code(Kit.END, 0, 0, 0), STATE);
    }

    private static ShrinkBench full() {
        ShrinkBench x = new ShrinkBench();
        for (int place = 0; place < 80; place++) {
            check.due("code at " + place, x.code(Kit.SET, 1, place, 0), place);
        }
        return x;
    }

    private static void codeOfAFullMachine() {
        check.by("An INSTRUCTION more: its PLACE. BAD: op not 0 .. 17, a, b, c; STATE: some INPUT was TRIED; FULL.");
        ShrinkBench x = full();
        check.due("code, the 81st", x.code(Kit.SET, 1, 80, 0), FULL);
        check.due("instruction(79, 2), it stays", x.instruction(79, 2), 79);
        check.due("instruction(80, 2)", x.instruction(80, 2), NONE);
        check.due("instruction(0, 2), it stays", x.instruction(0, 2), 0);
    }

    private static void codeInOrder() {
        check.by("REFUSALS, of several the first one told:");
        ShrinkBench x = full();
        check.due("code, BAD ahead of FULL", x.code(18, 0, 0, 0), BAD);
        check.due("code, FULL", x.code(Kit.END, 0, 0, 0), FULL);
        x.attempt(1);
        check.due("code, BAD ahead of STATE and FULL", x.code(Kit.END, 0, 0, 1), BAD);
        check.due("code, STATE ahead of FULL", x.code(Kit.END, 0, 0, 0), STATE);
        Kit.tape(x, new int[24]);
        check.due("feed, BAD ahead of FULL", x.feed(256), BAD);
        check.due("change, NONE ahead of BAD", x.change(2, 7, -1, -1), NONE);
        ShrinkBench y = Kit.with(
                Kit.in(Kit.COUNT, 0, 0, 0), Kit.in(Kit.SET, 1, 2, 0), Kit.in(Kit.IF_LESS, 0, 1, 4),
                Kit.in(Kit.CHECK, 7, 0, 0));
        Kit.attempt(y, 0, 8, 9);
        check.due("least, NONE ahead of STATE", y.least(0, 1), NONE);
        check.due("least, STATE", y.least(0, 0), STATE);
    }

    private static void wipeOfAll() {
        check.by("All INSTRUCTIONS go, POOLS, FAULTS, COVERS are empty: how many they were.");
        ShrinkBench x = scene();
        check.due("wipe()", x.wipe(), SCENE.length);
        for (int bench = 0; bench < 2; bench++) {
            for (int what = 0; what < 5; what++) {
                check.due("about(" + bench + ", " + what + ") behind wipe()", x.about(bench, what), 0);
            }
            for (int branch = 0; branch < 2 * SCENE.length; branch++) {
                check.due("covered(" + bench + ", " + branch + ", 1)", x.covered(bench, branch, 1), 0);
            }
            check.due("pool(" + bench + ", 0)", x.pool(bench, 0), NONE);
            check.due("fault(" + bench + ", 0, 0)", x.fault(bench, 0, 0), NONE);
        }
        for (int place = 0; place < SCENE.length; place++) {
            check.due("instruction(" + place + ", 0)", x.instruction(place, 0), NONE);
        }
        check.due("wipe(), of nothing", x.wipe(), 0);
        check.tape("behind wipe()", x, 40, 41, 42);
        check.due("run() of nothing", x.run(), 0);
        check.due("told(3)", x.told(3), 0);
        Kit.load(x, Kit.in(Kit.CHECK, 6, 0, 0));
        check.due("attempt, a fault as the first one", x.attempt(0), 2);
        check.due("fault(0, 0, 4), counted anew", x.fault(0, 0, 4), 1);
        check.due("fault(0, 1, 0)", x.fault(0, 1, 0), NONE);
    }

    private static void wipeOfAFullMachine() {
        check.by("All INSTRUCTIONS go, POOLS, FAULTS, COVERS are empty: how many they were.");
        ShrinkBench x = full();
        check.due("wipe()", x.wipe(), 80);
        check.due("instruction(79, 0)", x.instruction(79, 0), NONE);
        check.due("code(), from 0 on", x.code(Kit.SET, 2, 3, 0), 0);
        check.due("run(), of one instruction", x.run(), 0);
        check.due("told(3)", x.told(3), 1);
    }

    private static void partsOfAnInstruction() {
        check.by("Of an INSTRUCTION what 0 op, 1 a, 2 b, 3 c; NONE and status() NONE: none such.");
        ShrinkBench x = Kit.with(Kit.in(Kit.SET, 7, -1, 0), Kit.in(Kit.IF_LESS, 1, 2, 79));
        int[][] rows = {{Kit.SET, 7, -1, 0}, {Kit.IF_LESS, 1, 2, 79}};
        for (int place = 0; place < 2; place++) {
            for (int what = 0; what < 4; what++) {
                String call = "instruction(" + place + ", " + what + ")";
                check.due(call, x.instruction(place, what), rows[place][what]);
                check.due("status() behind " + call, x.status(), 0);
            }
            for (int what : new int[] {MIN, -1, 4, MAX}) {
                String call = "instruction(" + place + ", " + what + ")";
                check.due(call, x.instruction(place, what), NONE);
                check.due("status() behind " + call, x.status(), NONE);
            }
        }
        for (int place : new int[] {MIN, -1, 2, 79, 80, 1 << 30, MAX}) {
            check.due("instruction(0, 2), a true -1", x.instruction(0, 2), -1);
            check.due("status()", x.status(), 0);
            check.due("instruction(" + place + ", 0)", x.instruction(place, 0), NONE);
            check.due("status()", x.status(), NONE);
        }
    }

    private static void statusOfTwoCalls() {
        check.by("0, or NONE if the latest instruction(), register() was refused.");
        ShrinkBench x = scene();
        check.due("status(), neither was called", x.status(), 0);
        for (Call call : refused()) {
            call.made().applyAsInt(x);
            check.due("status() behind " + call.name(), x.status(), 0);
        }
        check.due("register(8)", x.register(8), NONE);
        check.due("status()", x.status(), NONE);
        for (Call call : refused()) {
            call.made().applyAsInt(x);
            check.due("status() behind " + call.name(), x.status(), NONE);
        }
        ShrinkBench y = scene();
        y.instruction(-1, 0);
        for (int i = 0; i < 3; i++) {
            y.run();
            y.feed(1);
            y.at(0);
            check.due("status() behind acts that were not refused", y.status(), NONE);
        }
        y.wipe();
        check.due("status() behind wipe()", y.status(), NONE);
        y.register(0);
        check.due("status() behind register(0)", y.status(), 0);
    }

    private static void runOfTheTape() {
        check.by("THE TAPE runs: the KIND of its VERDICT.");
        int[][][] machines = {
            {},
            {Kit.in(Kit.DIVIDE, 0, 0, 0)},
            {Kit.in(Kit.PICK, 0, 0, 0)},
            {Kit.in(Kit.CALL, 0, 0, 0)},
            {Kit.in(Kit.CHECK, 0, 0, 0)},
            {Kit.in(Kit.JUMP, 0, 0, 0)}};
        for (int kind = 0; kind <= 5; kind++) {
            ShrinkBench x = Kit.with(machines[kind]);
            check.due("run() of an empty tape", x.run(), kind);
            check.due("told(0)", x.told(0), kind);
            check.due("about(0, 4), it is not tried", x.about(0, 4), 0);
            check.due("about(1, 4), it is not tried", x.about(1, 4), 0);
        }
    }

    private static void toldAheadOfAnyRun() {
        check.by("NONE (0 each, PLACE NONE, ahead of any run).");
        ShrinkBench x = Kit.with(Kit.in(Kit.IF_SAME, 0, 0, 1), Kit.in(Kit.CHECK, 0, 0, 0));
        for (int i = 0; i < 2; i++) {
            int[] want = {0, NONE, 0, 0, 0};
            for (int what = 0; what < 5; what++) {
                check.due("told(" + what + ")", x.told(what), want[what]);
            }
            check.due("called(0)", x.called(0), NONE);
            check.due("register(0)", x.register(0), 0);
            check.due("turns(1)", x.turns(1), 0);
            // None of these is a run by run(), attempt().
            x.unseen(1);
            x.merge(0);
            x.attempt(2);
        }
        check.due("run()", x.run(), 4);
        check.due("told(1)", x.told(1), 1);
    }

    private static void toldOfTheLatestRun() {
        check.by("Of the latest run by run(), attempt(): what 0 KIND, 1 PLACE (NONE: it ended well),"
                + " 2 how many CALLS are open at a FAILURE, 3 INSTRUCTIONS that ran,"
                + " 4 how many BRANCHES were reached.");
        ShrinkBench x = Machines.callTree();
        Kit.run(x, 0, 1);
        // 1, twice 4 up to a call, and 3 up to the failure.
        told(x, 4, 8, 2, 12, 4);
        Kit.attempt(x, 0);
        told(x, 4, 8, 0, 4, 1);
        // 1, and nine times 4 up to a call, of which the ninth fails.
        Kit.run(x, new int[9]);
        told(x, 3, 4, 8, 1 + 9 * 4, 2);
        ShrinkBench well = Kit.with(
                Kit.in(Kit.CALL, 0, 0, 1), Kit.in(Kit.IF_LESS, 0, 0, 0), Kit.in(Kit.PICK, 0, 0, 0));
        check.due("attempt, it fails", Kit.attempt(well, 1), 3);
        told(well, 2, 2, 1, 3, 1);
        check.due("attempt, it ends well", Kit.attempt(well, 1, 9), 0);
        told(well, 0, NONE, 0, 3, 1);
        for (int what : new int[] {MIN, -1, 5, MAX}) {
            check.due("told(" + what + ")", well.told(what), NONE);
        }
    }

    private static void told(ShrinkBench x, int... want) {
        for (int what = 0; what < 5; what++) {
            check.due("told(" + what + ")", x.told(what), want[what]);
        }
    }

    private static void calledNumbers() {
        check.by("Open CALL i of it, the innermost first. NONE.");
        ShrinkBench x = Machines.callTree();
        Kit.run(x, 0, 1, 0);
        int[] want = {4, 6, 4};
        for (int i = 0; i < 3; i++) {
            check.due("called(" + i + ")", x.called(i), want[i]);
        }
        for (int i : new int[] {MIN, -1, 3, 7, 8, MAX}) {
            check.due("called(" + i + ") of 3", x.called(i), NONE);
        }
        Kit.run(x, new int[9]);
        check.due("called(7) of 8", x.called(7), 4);
        check.due("called(8) of 8", x.called(8), NONE);
        Kit.run(x);
        check.due("called(0), no call is open", x.called(0), NONE);
    }

    private static void registerNumbers() {
        check.by("Register r at its end; as of instruction().");
        ShrinkBench x = Kit.with(Kit.in(Kit.SET, 0, -1, 0), Kit.in(Kit.SET, 7, MIN, 0), Kit.in(Kit.CHECK, 5, 0, 0));
        x.run();
        check.due("register(0)", x.register(0), -1);
        check.due("status(), a true -1", x.status(), 0);
        check.due("register(7)", x.register(7), MIN);
        for (int r : new int[] {MIN, -1, 8, MAX}) {
            check.due("register(" + r + ")", x.register(r), NONE);
            check.due("status()", x.status(), NONE);
            check.due("register(6)", x.register(6), 0);
            check.due("status()", x.status(), 0);
        }
    }

    private static void turnsNumbers() {
        check.by("TURNS of a BRANCH in it (0 too for one that there is not). NONE: not 0 .. 159.");
        ShrinkBench x = Kit.with(Kit.in(Kit.SET, 1, 1, 0), Kit.in(Kit.IF_LESS, 0, 1, 79));
        x.run();
        check.due("turns(3)", x.turns(3), 1);
        check.due("turns(2), it went there not", x.turns(2), 0);
        check.due("turns(0), no branch is there", x.turns(0), 0);
        check.due("turns(1), no branch is there", x.turns(1), 0);
        check.due("turns(4), no instruction is there", x.turns(4), 0);
        check.due("turns(159), no instruction is there", x.turns(159), 0);
        for (int branch : new int[] {MIN, -1, 160, MAX}) {
            check.due("turns(" + branch + ")", x.turns(branch), NONE);
        }
    }

    /** Both benches have pools and three faults; the latest run failed in calls, and a cut was made. */
    private static ShrinkBench scene() {
        ShrinkBench x = Kit.with(SCENE);
        Kit.attempt(x, 0, 3, 5);
        Kit.attempt(x, 0, 7);
        Kit.attempt(x, 0, 100);
        Kit.attempt(x, 1);
        Kit.attempt(x, 1, 9, 9, 9);
        Kit.attempt(x, 1, 9, 100);
        x.cut(0, 0);
        Kit.run(x, 1, 2, 3);
        Kit.tape(x, 40, 41, 42);
        return x;
    }

    /** All that can be seen, in some 330 calls; the inputs come last, for they use the tape up. */
    private static String seen(ShrinkBench x) {
        List<Integer> all = new ArrayList<>();
        all.add(x.status());
        all.add(x.runs());
        for (int i = 0; i < 25; i++) {
            all.add(x.at(i));
        }
        for (int i = 0; i < 9; i++) {
            all.add(x.told(i));
            all.add(x.called(i));
            all.add(x.register(i));
        }
        for (int branch = 0; branch < 2 * SCENE.length; branch++) {
            all.add(x.turns(branch));
        }
        for (int bench = 0; bench < 2; bench++) {
            for (int what = 0; what < 5; what++) {
                all.add(x.about(bench, what));
                for (int f = 0; f < 4; f++) {
                    all.add(x.fault(bench, f, what));
                }
            }
            for (int digits = 1; digits <= 9; digits++) {
                for (int branch : new int[] {4, 5, 8, 9}) {
                    all.add(x.covered(bench, branch, digits));
                }
            }
        }
        for (int place = 0; place <= SCENE.length; place++) {
            for (int what = 0; what < 4; what++) {
                all.add(x.instruction(place, what));
            }
        }
        return all + inputsOf(x);
    }

    private static String inputsOf(ShrinkBench x) {
        StringBuilder all = new StringBuilder();
        for (int bench = 0; bench < 2; bench++) {
            for (int i = 0; i < 4; i++) {
                all.append(x.pool(bench, i)).append(Kit.tapeOf(x));
                all.append(x.first(bench, i)).append(Kit.tapeOf(x));
            }
        }
        return all.toString();
    }

    /** Calls that are refused in the scene, but for those that status() tells of. */
    private static List<Call> refused() {
        List<Call> all = new ArrayList<>(List.of(
                new Call("code(18, ..)", x -> x.code(18, 0, 0, 0), BAD),
                new Call("code(0, 8, ..)", x -> x.code(0, 8, 0, 0), BAD),
                new Call("code(17, ..)", x -> x.code(17, 0, 0, 0), STATE),
                new Call("feed(-1)", x -> x.feed(-1), BAD),
                new Call("feed(256)", x -> x.feed(256), BAD),
                new Call("keep(-1)", x -> x.keep(-1), BAD),
                new Call("keep(4)", x -> x.keep(4), BAD),
                new Call("at(3)", x -> x.at(3), NONE),
                new Call("change(0, 7, ..)", x -> x.change(0, 7, 0, 0), BAD),
                new Call("change(0, 4, -1, 0)", x -> x.change(0, 4, -1, 0), BAD),
                new Call("change(1, 2, 0, 1000000001)", x -> x.change(1, 2, 0, 1000000001), BAD),
                new Call("told(5)", x -> x.told(5), NONE),
                new Call("called(8)", x -> x.called(8), NONE),
                new Call("turns(160)", x -> x.turns(160), NONE),
                new Call("about(0, 5)", x -> x.about(0, 5), NONE),
                new Call("covered(0, 160, 1)", x -> x.covered(0, 160, 1), NONE),
                new Call("covered(0, 0, 10)", x -> x.covered(0, 0, 10), NONE),
                new Call("fault(0, 0, 5)", x -> x.fault(0, 0, 5), NONE),
                new Call("unseen(0)", x -> x.unseen(0), NONE),
                new Call("unseen(160)", x -> x.unseen(160), NONE),
                new Call("least(1, 1), there is none", x -> x.least(1, 1), STATE)));
        for (int bench : NO_BENCH) {
            all.addAll(ofNoBench(bench));
        }
        for (int f : NO_FAULT) {
            all.addAll(ofNoFault(f));
        }
        return all;
    }

    private static List<Call> ofNoBench(int bench) {
        return List.of(
                new Call("change(" + bench + ", 4, ..)", x -> x.change(bench, 4, 0, 0), NONE),
                new Call("attempt(" + bench + ")", x -> x.attempt(bench), NONE),
                new Call("about(" + bench + ", 0)", x -> x.about(bench, 0), NONE),
                new Call("covered(" + bench + ", 4, 1)", x -> x.covered(bench, 4, 1), NONE),
                new Call("pool(" + bench + ", 0)", x -> x.pool(bench, 0), NONE),
                new Call("fault(" + bench + ", 0, 0)", x -> x.fault(bench, 0, 0), NONE),
                new Call("first(" + bench + ", 0)", x -> x.first(bench, 0), NONE),
                new Call("cut(" + bench + ", 0)", x -> x.cut(bench, 0), NONE),
                new Call("least(" + bench + ", 0)", x -> x.least(bench, 0), NONE),
                new Call("merge(" + bench + ")", x -> x.merge(bench), NONE));
    }

    private static List<Call> ofNoFault(int f) {
        return List.of(
                new Call("pool(0, " + f + ")", x -> x.pool(0, f), NONE),
                new Call("fault(0, " + f + ", 4)", x -> x.fault(0, f, 4), NONE),
                new Call("first(0, " + f + ")", x -> x.first(0, f), NONE),
                new Call("cut(0, " + f + ")", x -> x.cut(0, f), NONE),
                new Call("least(0, " + f + ")", x -> x.least(0, f), NONE));
    }

    private static void refusalsChangeNothing() {
        check.by("They change nothing.");
        String untouched = seen(scene());
        for (Call call : refused()) {
            ShrinkBench x = scene();
            check.due(call.name(), call.made().applyAsInt(x), call.due());
            check.same("what is seen behind " + call.name(), seen(x), untouched);
        }
        ShrinkBench told = scene();
        told.register(8);
        String withStatus = seen(told);
        check.holds("status() alone is another", withStatus.substring(3).equals(untouched.substring(2)));
        ShrinkBench x = scene();
        check.due("instruction(8, 0)", x.instruction(8, 0), NONE);
        check.same("what is seen behind instruction(8, 0)", seen(x), withStatus);
    }

    private static void refusalsOfFullThings() {
        check.by("They change nothing.");
        ShrinkBench x = scene();
        Kit.tape(x, new int[24]);
        String untouched = seen(x);
        ShrinkBench y = scene();
        Kit.tape(y, new int[24]);
        check.due("feed(1) of a full tape", y.feed(1), FULL);
        check.same("what is seen behind it", seen(y), untouched);
        ShrinkBench z = full();
        check.due("code(), the machine full", z.code(Kit.CHECK, 0, 0, 0), FULL);
        check.due("run(), as it was", z.run(), 0);
        check.due("told(3)", z.told(3), 80);
    }

    /** Calls that are not refused, and that tell nothing of the tape. */
    private static List<Call> ofNoTape() {
        return List.of(
                new Call("wipe()", x -> x.wipe(), 8),
                new Call("instruction(0, 0)", x -> x.instruction(0, 0), 0),
                new Call("status()", x -> x.status(), 0),
                new Call("at(0)", x -> x.at(0), 40),
                new Call("run()", x -> x.run(), 4),
                new Call("told(0)", x -> x.told(0), 4),
                new Call("called(0)", x -> x.called(0), 5),
                new Call("register(2)", x -> x.register(2), 5),
                new Call("turns(4)", x -> x.turns(4), 4),
                new Call("attempt(0)", x -> x.attempt(0), 1),
                new Call("attempt(1)", x -> x.attempt(1), 0),
                new Call("about(0, 4)", x -> x.about(0, 4), 3),
                new Call("covered(0, 4, 2)", x -> x.covered(0, 4, 2), 1),
                new Call("fault(0, 0, 0)", x -> x.fault(0, 0, 0), 4),
                new Call("runs()", x -> x.runs(), 6),
                new Call("unseen(9)", x -> x.unseen(9), 0),
                new Call("merge(0)", x -> x.merge(0), 2),
                new Call("merge(1)", x -> x.merge(1), 1));
    }

    private static void actsLeaveTheTape() {
        check.by("THE TAPE is an INPUT; acts leave it but where told.");
        for (Call call : ofNoTape()) {
            ShrinkBench x = scene();
            check.due(call.name(), call.made().applyAsInt(x), call.due());
            check.tape("behind " + call.name(), x, 40, 41, 42);
        }
        ShrinkBench y = new ShrinkBench();
        Kit.tape(y, 40, 41, 42);
        check.due("code()", y.code(Kit.END, 0, 0, 0), 0);
        check.tape("behind code()", y, 40, 41, 42);
    }

    private static void actsLeaveTheLatestRun() {
        check.by("Of the latest run by run(), attempt():");
        List<Call> others = List.of(
                new Call("wipe()", x -> x.wipe(), 8),
                new Call("feed(1)", x -> x.feed(1), 4),
                new Call("keep(0)", x -> x.keep(0), 0),
                new Call("change(0, 4, 0, 0)", x -> x.change(0, 4, 0, 0), 4),
                new Call("pool(0, 0)", x -> x.pool(0, 0), 2),
                new Call("first(0, 0)", x -> x.first(0, 0), 2),
                new Call("cut(0, 2)", x -> x.cut(0, 2), 1),
                new Call("least(0, 2)", x -> x.least(0, 2), 1),
                new Call("unseen(5)", x -> x.unseen(5), 0),
                new Call("merge(1)", x -> x.merge(1), 1));
        String untouched = runOf(scene());
        for (Call call : others) {
            ShrinkBench x = scene();
            check.due(call.name(), call.made().applyAsInt(x), call.due());
            check.same("the latest run behind " + call.name(), runOf(x), untouched);
        }
    }

    private static String runOf(ShrinkBench x) {
        List<Integer> all = new ArrayList<>();
        for (int i = 0; i < 8; i++) {
            all.add(x.told(i));
            all.add(x.called(i));
            all.add(x.register(i));
        }
        for (int branch = 0; branch < 160; branch++) {
            all.add(x.turns(branch));
        }
        return all.toString();
    }
}
