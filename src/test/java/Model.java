import java.util.ArrayList;
import java.util.Arrays;
import java.util.HashMap;
import java.util.LinkedHashSet;
import java.util.List;
import java.util.Map;
import java.util.Set;
import java.util.TreeMap;

/**
 * The document's promises written down a second time, with the Java library and without a thought
 * for room or speed, so that ShrinkBench can be held against it.
 */
final class Model {
    private static final int NONE = -1, BAD = -2, STATE = -3, FULL = -4;

    /** What a run was. */
    private static final class Outcome {
        int kind = 0;
        int place = NONE;
        List<Integer> open = new ArrayList<>();
        int steps = 0;
        int[] registers = new int[8];
        Map<Integer, Integer> turns = new TreeMap<>();

        /** Null if it ended well. */
        List<Integer> fault() {
            if (kind == 0) {
                return null;
            }
            List<Integer> f = new ArrayList<>(List.of(kind, place));
            f.addAll(open.subList(0, Math.min(2, open.size())));
            return f;
        }

        Set<String> reaches() {
            Set<String> all = new LinkedHashSet<>();
            turns.forEach((b, t) -> all.add(b + ":" + Integer.toBinaryString(t).length()));
            return all;
        }
    }

    private static final class Side {
        List<List<Integer>> pool = new ArrayList<>();
        List<List<Integer>> faults = new ArrayList<>();
        List<List<Integer>> firsts = new ArrayList<>();
        Map<List<Integer>, Integer> seen = new HashMap<>();
        Set<String> cover = new LinkedHashSet<>();
        int tried = 0;
    }

    private final List<int[]> program = new ArrayList<>();
    private List<Integer> tape = new ArrayList<>();
    private Side[] sides = {new Side(), new Side()};
    private Outcome latest = new Outcome();
    private int status = 0;
    private int runs = 0;

    int size() {
        return program.size();
    }

    boolean branches(int place) {
        return in(place, 0, program.size() - 1) && in(program.get(place)[0], 11, 12);
    }

    int code(int op, int a, int b, int c) {
        String registersA = "0,1,2,3,4,5,6,7,8,9,10,11,12,16,";
        String registersB = "1,2,3,4,5,7,9,10,11,12,";
        String places = "11,12,13,14,";
        if (op < 0 || op > 17) {
            return BAD;
        }
        boolean fine = in(a, 0, has(registersA, op) ? 7 : 0)
                && (op == 0 || in(b, 0, has(registersB, op) ? 7 : 0))
                && in(c, 0, has(places, op) ? 79 : 0);
        if (!fine) {
            return BAD;
        }
        if (sides[0].tried + sides[1].tried > 0) {
            return STATE;
        }
        if (program.size() == 80) {
            return FULL;
        }
        program.add(new int[] {op, a, b, c});
        return program.size() - 1;
    }

    private static boolean has(String list, int op) {
        return ("," + list).contains("," + op + ",");
    }

    private static boolean in(int number, int least, int most) {
        return least <= number && number <= most;
    }

    int wipe() {
        int many = program.size();
        program.clear();
        sides = new Side[] {new Side(), new Side()};
        return many;
    }

    int instruction(int place, int what) {
        boolean there = in(place, 0, program.size() - 1) && in(what, 0, 3);
        status = there ? 0 : NONE;
        return there ? program.get(place)[what] : NONE;
    }

    int status() {
        return status;
    }

    int feed(int b) {
        if (!in(b, 0, 255)) {
            return BAD;
        }
        if (tape.size() == 24) {
            return FULL;
        }
        tape.add(b);
        return tape.size();
    }

    int keep(int n) {
        if (!in(n, 0, tape.size())) {
            return BAD;
        }
        tape = new ArrayList<>(tape.subList(0, n));
        return n;
    }

    int at(int i) {
        return in(i, 0, tape.size() - 1) ? tape.get(i) : NONE;
    }

    int change(int bench, int kind, int x, int y) {
        if (!in(bench, 0, 1)) {
            return NONE;
        }
        if (!in(kind, 0, 6) || !in(x, 0, 1000000000) || !in(y, 0, 1000000000)) {
            return BAD;
        }
        List<Integer> t = changed(new ArrayList<>(tape), sides[bench].pool, kind, x, y);
        tape = new ArrayList<>(t.subList(0, Math.min(24, t.size())));
        return tape.size();
    }

    private static List<Integer> changed(List<Integer> t, List<List<Integer>> pool, int kind, int x, int y) {
        int n = t.size();
        if (kind == 4) {
            t.add(x % (n + 1), y % 256);
            return t;
        }
        if (kind == 6) {
            if (!pool.isEmpty()) {
                int p = x % (n + 1);
                List<Integer> other = pool.get(y % pool.size());
                t = new ArrayList<>(t.subList(0, p));
                t.addAll(other.subList(Math.min(p, other.size()), other.size()));
            }
            return t;
        }
        if (n == 0) {
            return t;
        }
        int m = x % n;
        int end = Math.min(n, m + 1 + y % 4);
        if (kind == 0) {
            t.set(m, t.get(m) ^ (int) Math.pow(2, y % 8));
        } else if (kind == 1) {
            t.set(m, y % 256);
        } else if (kind == 2) {
            t.subList(m, end).clear();
        } else if (kind == 3) {
            t.addAll(end, new ArrayList<>(t.subList(m, end)));
        } else {
            t.set(m, Math.floorMod(t.get(m) + (y % 2 == 1 ? 1 : -1), 256));
        }
        return t;
    }

    private Outcome ran(List<Integer> input) {
        Outcome o = new Outcome();
        int[] r = o.registers;
        int[] row = new int[16];
        int read = 0;
        int pc = 0;
        while (pc < program.size()) {
            if (o.steps == 400) {
                return failed(o, 5, pc);
            }
            o.steps++;
            int[] i = program.get(pc);
            int a = i[1], b = i[2], c = i[3];
            int to = pc + 1;
            switch (i[0]) {
                case 0 -> r[a] = b;
                case 1 -> r[a] = r[b];
                case 2 -> r[a] += r[b];
                case 3 -> r[a] -= r[b];
                case 4 -> r[a] *= r[b];
                case 5 -> {
                    if (r[b] == 0) {
                        return failed(o, 1, pc);
                    }
                    r[a] = (int) ((long) r[a] / r[b]);
                }
                case 6 -> r[a] = read < input.size() ? input.get(read++) : -1;
                case 7 -> {
                    if (!in(r[b], 0, input.size() - 1)) {
                        return failed(o, 2, pc);
                    }
                    r[a] = input.get(r[b]);
                }
                case 8 -> r[a] = input.size();
                case 9 -> {
                    if (!in(r[a], 0, 15)) {
                        return failed(o, 2, pc);
                    }
                    row[r[a]] = r[b];
                }
                case 10 -> {
                    if (!in(r[b], 0, 15)) {
                        return failed(o, 2, pc);
                    }
                    r[a] = row[r[b]];
                }
                case 11, 12 -> {
                    boolean goes = i[0] == 11 ? r[a] < r[b] : r[a] == r[b];
                    o.turns.merge(2 * pc + (goes ? 1 : 0), 1, Integer::sum);
                    to = goes ? c : to;
                }
                case 13 -> to = c;
                case 14 -> {
                    if (o.open.size() == 8) {
                        return failed(o, 3, pc);
                    }
                    o.open.add(0, pc);
                    to = c;
                }
                case 15 -> {
                    if (o.open.isEmpty()) {
                        return o;
                    }
                    to = o.open.remove(0) + 1;
                }
                case 16 -> {
                    if (r[a] == 0) {
                        return failed(o, 4, pc);
                    }
                }
                default -> to = 1000;
            }
            pc = to;
        }
        o.open.clear();
        return o;
    }

    private static Outcome failed(Outcome o, int kind, int place) {
        o.kind = kind;
        o.place = place;
        return o;
    }

    int run() {
        latest = ran(tape);
        return latest.kind;
    }

    int told(int what) {
        int[] all = {latest.kind, latest.place, latest.open.size(), latest.steps, latest.turns.size()};
        return in(what, 0, 4) ? all[what] : NONE;
    }

    int called(int i) {
        return in(i, 0, latest.open.size() - 1) ? latest.open.get(i) : NONE;
    }

    int register(int r) {
        status = in(r, 0, 7) ? 0 : NONE;
        return in(r, 0, 7) ? latest.registers[r] : NONE;
    }

    int turns(int branch) {
        return in(branch, 0, 159) ? latest.turns.getOrDefault(branch, 0) : NONE;
    }

    private int tried(Side side, List<Integer> input, Outcome o) {
        int answer = 0;
        side.tried++;
        if (!side.cover.containsAll(o.reaches()) && side.pool.size() < 40) {
            side.pool.add(new ArrayList<>(input));
            answer = 1;
        }
        side.cover.addAll(o.reaches());
        if (o.kind != 0) {
            if (!side.faults.contains(o.fault()) && side.faults.size() < 20) {
                side.faults.add(o.fault());
                side.firsts.add(new ArrayList<>(input));
                answer += 2;
            }
            side.seen.merge(o.fault(), 1, Integer::sum);
        }
        return answer;
    }

    int attempt(int bench) {
        if (!in(bench, 0, 1)) {
            return NONE;
        }
        latest = ran(tape);
        return tried(sides[bench], tape, latest);
    }

    int about(int bench, int what) {
        if (!in(bench, 0, 1) || !in(what, 0, 4)) {
            return NONE;
        }
        Side s = sides[bench];
        long branches = s.cover.stream().map(x -> x.split(":")[0]).distinct().count();
        return new int[] {s.pool.size(), s.faults.size(), s.cover.size(), (int) branches, s.tried}[what];
    }

    int covered(int bench, int branch, int digits) {
        if (!in(bench, 0, 1) || !in(branch, 0, 159) || !in(digits, 1, 9)) {
            return NONE;
        }
        return sides[bench].cover.contains(branch + ":" + digits) ? 1 : 0;
    }

    int pool(int bench, int i) {
        if (!in(bench, 0, 1) || !in(i, 0, sides[bench].pool.size() - 1)) {
            return NONE;
        }
        tape = new ArrayList<>(sides[bench].pool.get(i));
        return tape.size();
    }

    private boolean isFault(int bench, int f) {
        return in(bench, 0, 1) && in(f, 0, sides[bench].faults.size() - 1);
    }

    int fault(int bench, int f, int what) {
        if (!isFault(bench, f) || !in(what, 0, 4)) {
            return NONE;
        }
        List<Integer> fault = sides[bench].faults.get(f);
        if (what == 4) {
            return sides[bench].seen.get(fault);
        }
        return what < fault.size() ? fault.get(what) : NONE;
    }

    int first(int bench, int f) {
        if (!isFault(bench, f)) {
            return NONE;
        }
        tape = new ArrayList<>(sides[bench].firsts.get(f));
        return tape.size();
    }

    private boolean shows(List<Integer> input, List<Integer> fault) {
        runs++;
        return fault.equals(ran(input).fault());
    }

    int cut(int bench, int f) {
        if (!isFault(bench, f)) {
            return NONE;
        }
        List<Integer> fault = sides[bench].faults.get(f);
        List<Integer> now = sides[bench].firsts.get(f);
        List<Integer> before;
        runs = 0;
        do {
            before = now;
            now = lessened(leftOut(now, fault), fault);
        } while (!now.equals(before));
        tape = new ArrayList<>(now);
        return tape.size();
    }

    private List<Integer> leftOut(List<Integer> start, List<Integer> fault) {
        List<Integer> now = start;
        int s = (int) Math.ceil(now.size() / 2.0);
        while (s > 0) {
            int o = 0;
            while (o < now.size()) {
                List<Integer> less = new ArrayList<>(now);
                less.subList(o, Math.min(o + s, now.size())).clear();
                if (shows(less, fault)) {
                    now = less;
                } else {
                    o += s;
                }
            }
            s = s / 2;
        }
        return now;
    }

    private List<Integer> lessened(List<Integer> start, List<Integer> fault) {
        List<Integer> now = start;
        for (int i = 0; i < now.size(); i++) {
            List<Integer> next = now;
            do {
                now = next;
                next = null;
                int v = now.get(i);
                for (int less : new int[] {0, v / 2, v - 1}) {
                    List<Integer> with = new ArrayList<>(now);
                    with.set(i, less);
                    if (next == null && in(less, 0, v - 1) && shows(with, fault)) {
                        next = with;
                    }
                }
            } while (next != null);
        }
        return now;
    }

    int runs() {
        return runs;
    }

    private static List<List<Integer>> smallInputs() {
        List<List<Integer>> all = new ArrayList<>();
        all.add(List.of());
        for (int b = 0; b < 256; b++) {
            all.add(List.of(b));
        }
        return all;
    }

    int least(int bench, int f) {
        if (!isFault(bench, f)) {
            return NONE;
        }
        for (List<Integer> input : smallInputs()) {
            if (sides[bench].faults.get(f).equals(ran(input).fault())) {
                tape = new ArrayList<>(input);
                return tape.size();
            }
        }
        return STATE;
    }

    int unseen(int branch) {
        if (branch < 0 || !branches(branch / 2)) {
            return NONE;
        }
        for (List<Integer> input : smallInputs()) {
            if (ran(input).turns.containsKey(branch)) {
                return 0;
            }
        }
        return 1;
    }

    int merge(int bench) {
        if (!in(bench, 0, 1)) {
            return NONE;
        }
        List<List<Integer>> all = new ArrayList<>(sides[1 - bench].pool);
        all.addAll(sides[1 - bench].firsts);
        int came = 0;
        for (List<Integer> input : all) {
            came += tried(sides[bench], input, ran(input)) % 2;
        }
        return came;
    }

    /** For the message of a test that failed. */
    @Override
    public String toString() {
        return tape + " " + Arrays.toString(latest.registers) + " " + latest.turns;
    }
}
