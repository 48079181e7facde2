import java.util.ArrayList;
import java.util.List;
import java.util.Random;

/** Holds ShrinkBench against Model over many runs of calls, chosen by a fixed seed. */
public final class ModelTest {
    private static final int RUNS = 3000;
    private static final int CALLS = 512;
    private static final String[] CALLS_BY_WEIGHT = {
        "feed", "feed", "feed", "feed", "keep", "at", "change", "change", "change", "change", "change",
        "run", "run", "told", "told", "called", "register", "turns", "attempt", "attempt", "attempt",
        "attempt", "attempt", "attempt", "about", "about", "covered", "pool", "pool", "fault", "fault",
        "first", "cut", "cut", "runs", "runs", "least", "unseen", "merge", "instruction", "status", "code",
    };

    private final Random random;
    private final ShrinkBench bench = new ShrinkBench();
    private final Model model = new Model();
    private final List<String> calls = new ArrayList<>();
    private boolean right = true;

    private ModelTest(long seed) {
        random = new Random(seed);
    }

    public static void main(String[] args) {
        Check check = new Check("ModelTest");
        for (int run = 0; run < RUNS && check.allRight(); run++) {
            ModelTest test = new ModelTest(run);
            check.holds("run " + run + " is as the model's", test.wentRight());
        }
        check.end();
    }

    private boolean wentRight() {
        load();
        while (right && calls.size() < CALLS - 40) {
            call(CALLS_BY_WEIGHT[random.nextInt(CALLS_BY_WEIGHT.length)]);
            // Far enough from the end for another program.
            if (calls.size() < CALLS - 140 && random.nextInt(300) == 0) {
                due("wipe()", bench.wipe(), model.wipe());
                load();
            }
        }
        while (right && calls.size() < CALLS) {
            call(random.nextBoolean() ? "at" : "fault");
        }
        return right;
    }

    private void due(String call, int got, int want) {
        calls.add(call + " = " + got);
        if (got != want && right) {
            right = false;
            calls.forEach(System.out::println);
            System.out.println("due is " + want + "; the model: " + model);
        }
    }

    /** A number of 0 .. most, at times one that is beyond. */
    private int upTo(int most) {
        int chance = random.nextInt(40);
        if (chance == 0) {
            return new int[] {Integer.MIN_VALUE, -1, most + 1, Integer.MAX_VALUE}[random.nextInt(4)];
        }
        return random.nextInt(most + 1);
    }

    /** Mostly one of an instruction that branches, if a few looks find one. */
    private int branch() {
        int branch = upTo(159);
        for (int look = 0; look < 20 && !model.branches(branch / 2); look++) {
            branch = upTo(159);
        }
        return branch;
    }

    private void code(int op, int a, int b, int c) {
        due("code(" + op + ", " + a + ", " + b + ", " + c + ")", bench.code(op, a, b, c), model.code(op, a, b, c));
    }

    private void load() {
        int size = 1 + random.nextInt(random.nextInt(6) == 0 ? 81 : 30);
        if (random.nextInt(3) == 0) {
            loadAnyOps(size);
        } else {
            loadSnippets(10 + size);
        }
    }

    private void loadAnyOps(int size) {
        for (int place = 0; place < size; place++) {
            int op = random.nextInt(18);
            // Ends that come early leave little to look at.
            if (op == 17 && place < size / 2 || op == 16 && place < 3) {
                op = 6;
            }
            boolean c = op >= 11 && op <= 14;
            boolean a = op <= 12 || op == 16;
            boolean b = op >= 1 && op <= 12 && op != 6 && op != 8;
            int to = random.nextInt(5) == 0 ? random.nextInt(80) : Math.min(79, random.nextInt(size + 1));
            int number = random.nextBoolean() ? random.nextInt(256) : random.nextInt(5) - 1;
            code(op, a ? random.nextInt(4) : 0, op == 0 ? number : b ? random.nextInt(4) : 0, c ? to : 0);
        }
    }

    /** Programs that read bytes, compare them and go on, so that inputs matter to them. */
    private void loadSnippets(int size) {
        int place = 0;
        while (place + 5 <= Math.min(size, 80)) {
            int r = random.nextInt(3);
            int number = random.nextBoolean() ? random.nextInt(256) : random.nextInt(6);
            int ahead = Math.min(79, place + 3 + random.nextInt(12));
            int back = random.nextInt(place + 1);
            switch (random.nextInt(8)) {
                case 0, 1 -> snippet(6, r, 0, 0, 0, 3, number, 0, 11 + random.nextInt(2), r, 3, ahead);
                case 2 -> snippet(6, r, 0, 0, 0, 4, -1, 0, 11, 4, r, random.nextBoolean() ? back : ahead);
                case 3 -> snippet(0, 5, number, 0, 3, r, 5, 0, 16, r, 0, 0);
                case 4 -> snippet(0, 5, number, 0, 3, 5, r, 0, 5, 6, 5, 0);
                case 5 -> snippet(14, 0, 0, random.nextInt(3) == 0 ? back : ahead);
                case 6 -> snippet(9, r, 3, 0, 10, 6, r, 0, 7, r, 6, 0);
                default -> snippet(15, 0, 0, 0, 8, r, 0, 0);
            }
            place = model.size();
        }
    }

    private void snippet(int... rows) {
        for (int i = 0; i + 3 < rows.length; i += 4) {
            code(rows[i], rows[i + 1], rows[i + 2], rows[i + 3]);
        }
    }

    private void call(String name) {
        switch (name) {
            case "feed", "keep", "at", "change" -> callOfTheTape(name);
            case "run", "told", "called", "register", "turns", "instruction", "status", "code" -> callOfTheMachine(name);
            default -> callOfABench(name);
        }
    }

    private void callOfTheTape(String name) {
        int i = upTo(24);
        switch (name) {
            case "feed" -> {
                int b = random.nextBoolean() ? upTo(255) : upTo(4);
                due("feed(" + b + ")", bench.feed(b), model.feed(b));
            }
            case "keep" -> due("keep(" + i + ")", bench.keep(i), model.keep(i));
            case "at" -> due("at(" + i + ")", bench.at(i), model.at(i));
            default -> {
                int of = upTo(1), kind = upTo(6);
                int x = random.nextBoolean() ? upTo(1000000000) : upTo(30);
                int y = random.nextBoolean() ? upTo(1000000000) : upTo(300);
                String call = "change(" + of + ", " + kind + ", " + x + ", " + y + ")";
                due(call, bench.change(of, kind, x, y), model.change(of, kind, x, y));
                int place = random.nextInt(24);
                due("at(" + place + ")", bench.at(place), model.at(place));
            }
        }
    }

    private void callOfTheMachine(String name) {
        int i = name.equals("turns") ? branch() : upTo(7);
        switch (name) {
            case "run" -> due("run()", bench.run(), model.run());
            case "told" -> due("told(" + i + ")", bench.told(i), model.told(i));
            case "called" -> due("called(" + i + ")", bench.called(i), model.called(i));
            case "register" -> due("register(" + i + ")", bench.register(i), model.register(i));
            case "turns" -> due("turns(" + i + ")", bench.turns(i), model.turns(i));
            case "instruction" -> {
                int what = upTo(3);
                due("instruction(" + i + ", " + what + ")", bench.instruction(i, what), model.instruction(i, what));
            }
            case "code" -> code(upTo(17), upTo(7), upTo(7), upTo(79));
            default -> due("status()", bench.status(), model.status());
        }
    }

    private void callOfABench(String name) {
        int of = upTo(1);
        int many = model.about(of, name.equals("pool") ? 0 : 1);
        int f = random.nextInt(8) == 0 || many <= 0 ? upTo(20) : random.nextInt(many);
        String two = "(" + of + ", " + f + ")";
        switch (name) {
            case "attempt" -> due("attempt(" + of + ")", bench.attempt(of), model.attempt(of));
            case "merge" -> due("merge(" + of + ")", bench.merge(of), model.merge(of));
            case "pool" -> due("pool" + two, bench.pool(of, f), model.pool(of, f));
            case "first" -> due("first" + two, bench.first(of, f), model.first(of, f));
            case "cut" -> {
                due("cut" + two, bench.cut(of, f), model.cut(of, f));
                due("runs()", bench.runs(), model.runs());
            }
            case "least" -> due("least" + two, bench.least(of, f), model.least(of, f));
            case "runs" -> due("runs()", bench.runs(), model.runs());
            case "about" -> {
                int what = upTo(4);
                due("about(" + of + ", " + what + ")", bench.about(of, what), model.about(of, what));
            }
            case "fault" -> {
                int what = upTo(4);
                due("fault(" + of + ", " + f + ", " + what + ")", bench.fault(of, f, what), model.fault(of, f, what));
            }
            case "unseen" -> {
                int branch = branch();
                due("unseen(" + branch + ")", bench.unseen(branch), model.unseen(branch));
            }
            default -> {
                int branch = branch();
                int digits = random.nextBoolean() ? 1 : upTo(9);
                String call = "covered(" + of + ", " + branch + ", " + digits + ")";
                due(call, bench.covered(of, branch, digits), model.covered(of, branch, digits));
            }
        }
    }
}
