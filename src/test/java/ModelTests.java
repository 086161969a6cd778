import java.util.ArrayList;
import java.util.HashMap;
import java.util.HashSet;
import java.util.List;
import java.util.Map;
import java.util.Random;
import java.util.Set;
import java.util.TreeSet;

/** Runs of calls from fixed seeds, each answer compared with a second writing of the document. */
public final class ModelTests {
    private static final int RUNS = 3000;
    private static final int CALLS = 512;
    private static final int[] ODD = {
        Integer.MIN_VALUE, Integer.MAX_VALUE, -9, -2, -1, 0, 3, 4, 8, 15, 16, 23, 24, 25, 72};

    /** The document once more: classes and places are worked out from the edges when they are asked. */
    private static final class Model {
        final List<int[]> source = new ArrayList<>();
        final Set<List<Integer>> edges = new HashSet<>();
        final Map<Integer, Integer> labels = new HashMap<>();
        List<int[]> guarded = null;
        List<int[]> running = null;
        int[] registers;
        int[] cells;
        int pc;
        int state;
        List<Integer> shown;

        static boolean in(int v, int from, int to) {
            return from <= v && v <= to;
        }

        int add(int op, int a, int b) {
            boolean aRegister = op >= 1 && op <= 5 || op >= 7;
            if (!in(op, 0, 9) || aRegister && !in(a, 0, 3) || op == 4 && !in(b, 0, 3)) {
                return -1;
            }
            if ((op == 2 || op == 3) && !in(b, 0, 15) || op == 6 && !in(a, 0, 23)
                    || (op == 7 || op == 9) && !in(b, 0, 23)) {
                return -1;
            }
            if (source.size() == 24) {
                return -2;
            }
            source.add(new int[] {op, a, b});
            guarded = null;
            running = null;
            return source.size() - 1;
        }

        boolean allow(int jump, int target) {
            boolean there = in(jump, 0, source.size() - 1) && in(target, 0, source.size() - 1);
            if (!there || source.get(jump)[0] != 8 || edges.size() == 48 || !edges.add(List.of(jump, target))) {
                return false;
            }
            labels.clear();
            guarded = null;
            running = null;
            return true;
        }

        /** The class of a target: what can be reached from it through jumps that it shares. */
        TreeSet<Integer> classOf(int target) {
            TreeSet<Integer> all = new TreeSet<>();
            List<Integer> open = new ArrayList<>(List.of(target));
            while (!open.isEmpty()) {
                int t = open.remove(open.size() - 1);
                if (!all.add(t)) {
                    continue;
                }
                for (List<Integer> in : edges) {
                    for (List<Integer> out : edges) {
                        if (in.get(1) == t && in.get(0).equals(out.get(0))) {
                            open.add(out.get(1));
                        }
                    }
                }
            }
            return all;
        }

        int label(int i) {
            if (!in(i, 0, source.size() - 1)) {
                return -1;
            }
            return labels.computeIfAbsent(i, this::labelAnew);
        }

        int labelAnew(int i) {
            return edges.stream().anyMatch(e -> e.get(1) == i) ? 1 + classOf(i).first() : 0;
        }

        int guardNumber(int jump) {
            return edges.stream().filter(e -> e.get(0) == jump).mapToInt(e -> label(e.get(1))).findFirst().orElse(0);
        }

        int protect() {
            guarded = null;
            running = null;
            int last = source.isEmpty() ? -1 : source.get(source.size() - 1)[0];
            if (last != 0 && last != 6 && last != 8) {
                return -1;
            }
            for (int[] s : source) {
                int address = s[0] == 6 ? s[1] : s[0] == 7 || s[0] == 9 ? s[2] : 0;
                if (address >= source.size()) {
                    return -1;
                }
            }
            List<int[]> made = new ArrayList<>();
            for (int i = 0; i < source.size(); i++) {
                int[] s = source.get(i).clone();
                if (label(i) > 0) {
                    made.add(new int[] {10, label(i), 0});
                }
                if (s[0] == 8) {
                    made.add(new int[] {11, s[1], guardNumber(i)});
                }
                if (s[0] == 6) {
                    s[1] = countBefore(s[1]);
                }
                if (s[0] == 7 || s[0] == 9) {
                    s[2] = countBefore(s[2]);
                }
                made.add(s);
            }
            guarded = made;
            return made.size();
        }

        int countBefore(int i) {
            int count = 0;
            for (int j = 0; j < i; j++) {
                count += 1 + (label(j) > 0 ? 1 : 0) + (source.get(j)[0] == 8 ? 1 : 0);
            }
            return count;
        }

        int place(int i) {
            return guarded == null || !in(i, 0, source.size() - 1) ? -1 : countBefore(i);
        }

        static int field(List<int[]> program, int i, int field) {
            return program == null || !in(i, 0, program.size() - 1) || !in(field, 0, 2) ? -9 : program.get(i)[field];
        }

        boolean start(boolean guards) {
            if (guarded == null) {
                return false;
            }
            running = guards ? guarded : source;
            registers = new int[4];
            cells = new int[16];
            shown = new ArrayList<>();
            pc = 0;
            state = 0;
            return true;
        }

        int run(int n) {
            int made = 0;
            while (in(n, 0, 1000) && running != null && state == 0 && made < n) {
                step(running.get(pc));
                made++;
            }
            return made;
        }

        void step(int[] s) {
            int op = s[0];
            int a = s[1];
            int b = s[2];
            int next = pc + 1;
            if (op == 0) {
                state = 1;
            } else if (op == 1 || op == 9) {
                registers[a] = b;
            } else if (op == 2) {
                registers[a] = cells[b];
            } else if (op == 3) {
                cells[b] = registers[a];
            } else if (op == 4) {
                registers[a] += registers[b];
            } else if (op == 5) {
                shown.add(registers[a]);
            } else if (op == 6) {
                next = a;
            } else if (op == 7 && registers[a] == 0) {
                next = b;
            } else if (op == 8) {
                next = registers[a];
                state = in(next, 0, running.size() - 1) ? 0 : 3;
            } else if (op == 11) {
                int r = registers[a];
                boolean fine = in(r, 0, running.size() - 1) && running.get(r)[0] == 10 && running.get(r)[1] == b;
                state = fine ? 0 : 2;
            }
            if (state == 0) {
                pc = next;
            }
        }

        int state() {
            return running == null ? -1 : state;
        }

        boolean overwrite(int cell, int v) {
            if (running == null || !in(cell, 0, 15)) {
                return false;
            }
            cells[cell] = v;
            return true;
        }

        int memory(int cell) {
            return running == null || !in(cell, 0, 15) ? 0 : cells[cell];
        }

        int register(int r) {
            return running == null || !in(r, 0, 3) ? 0 : registers[r];
        }

        int pc() {
            return running == null ? -1 : pc;
        }

        int shows() {
            return running == null ? 0 : shown.size();
        }

        int shown(int k) {
            return running == null || !in(k, 0, 7) || k >= shown.size() ? 0 : shown.get(shown.size() - 1 - k);
        }
    }

    private static int wrong = 0;
    private static final int[] ends = new int[5];
    private static int joined = 0;
    private static int fullEdges = 0;

    private final Random random;
    private final JumpGuard x = new JumpGuard();
    private final Model m = new Model();
    private final int seed;
    private final StringBuilder told = new StringBuilder();
    private final int size;
    private int calls = 0;
    private boolean failed = false;

    private ModelTests(int seed) {
        this.seed = seed;
        random = new Random(seed);
        size = 1 + random.nextInt(26);
    }

    private void due(String call, long got, long want) {
        calls++;
        told.append(call).append(" = ").append(got).append('\n');
        if (got != want && !failed) {
            failed = true;
            wrong++;
            System.out.println("seed " + seed + ":\n" + told + "due is " + want);
        }
    }

    private static long bit(boolean v) {
        return v ? 1 : 0;
    }

    private int upTo(int n) {
        return random.nextInt(n);
    }

    /** Mostly 0 .. n - 1, at times something odd. */
    private int some(int n) {
        return upTo(25) == 0 ? ODD[upTo(ODD.length)] : upTo(n);
    }

    /** Mostly one of a few, so that what is overwritten is also read. */
    private int someCell() {
        return some(upTo(4) == 0 ? 16 : 2);
    }

    private void add() {
        int[] likely = {0, 1, 2, 2, 2, 3, 4, 5, 5, 6, 7, 8, 8, 8, 9, 9, 9};
        int op = upTo(30) == 0 ? upTo(14) - 1 : likely[upTo(likely.length)];
        int a = op == 6 ? some(size) : some(4);
        int b = op == 2 || op == 3 ? someCell() : op == 4 ? some(4) : some(size);
        due("add(" + op + ", " + a + ", " + b + ")", x.add(op, a, b), m.add(op, a, b));
    }

    private void allow() {
        int jump = some(Math.max(1, m.source.size()));
        int target = some(Math.max(1, m.source.size()));
        for (int i = 0; i < 8 && Model.field(m.source, jump, 0) != 8; i++) {
            jump = some(Math.max(1, m.source.size()));
        }
        due("allow(" + jump + ", " + target + ")", bit(x.allow(jump, target)), bit(m.allow(jump, target)));
    }

    private void protect() {
        due("protect()", x.protect(), m.protect());
    }

    private void start() {
        boolean guards = upTo(2) == 0;
        due("start(" + guards + ")", bit(x.start(guards)), bit(m.start(guards)));
    }

    private void run() {
        int[] likely = {0, 1, 1, 2, 3, 5, 10, 30, 1000, 1001, -1};
        int n = upTo(4) == 0 ? likely[upTo(likely.length)] : 1 + upTo(3);
        due("run(" + n + ")", x.run(n), m.run(n));
        ends[m.state() + 1]++;
    }

    private void overwrite() {
        int cell = someCell();
        int v = upTo(2) == 0 ? ODD[upTo(ODD.length)] : m.place(upTo(size));
        due("overwrite(" + cell + ", " + v + ")", bit(x.overwrite(cell, v)), bit(m.overwrite(cell, v)));
    }

    private void ask() {
        int i = some(26);
        int field = some(3);
        switch (upTo(11)) {
            case 0 -> due("source(" + i + ", " + field + ")", x.source(i, field), Model.field(m.source, i, field));
            case 1, 2 -> {
                int g = some(73);
                due("guarded(" + g + ", " + field + ")", x.guarded(g, field), Model.field(m.guarded, g, field));
            }
            case 3 -> due("place(" + i + ")", x.place(i), m.place(i));
            case 4 -> due("label(" + i + ")", x.label(i), m.label(i));
            case 5 -> due("state()", x.state(), m.state());
            case 6 -> due("memory(" + i + ")", x.memory(i), m.memory(i));
            case 7 -> due("register(" + i % 5 + ")", x.register(i % 5), m.register(i % 5));
            case 8 -> due("pc()", x.pc(), m.pc());
            case 9 -> due("shows()", x.shows(), m.shows());
            default -> due("shown(" + i % 9 + ")", x.shown(i % 9), m.shown(i % 9));
        }
    }

    private void build() {
        for (int i = 0; i + 1 < size; i++) {
            add();
        }
        due("add(6, 0, 0)", x.add(6, 0, 0), m.add(6, 0, 0));
        int edges = upTo(4) == 0 ? 90 : upTo(30);
        for (int i = 0; i < edges; i++) {
            allow();
        }
        fullEdges += m.edges.size() == 48 ? 1 : 0;
        for (int i = 0; i < m.source.size(); i++) {
            due("label(" + i + ")", x.label(i), m.label(i));
            joined += m.label(i) > 0 && m.label(i) != i + 1 ? 1 : 0;
        }
        protect();
    }

    private void askAllGuarded() {
        for (int i = 0; m.guarded != null && i < m.guarded.size(); i++) {
            due("guarded(" + i + ", 0)", x.guarded(i, 0), Model.field(m.guarded, i, 0));
            due("guarded(" + i + ", 1)", x.guarded(i, 1), Model.field(m.guarded, i, 1));
            due("guarded(" + i + ", 2)", x.guarded(i, 2), Model.field(m.guarded, i, 2));
        }
    }

    private void play() {
        if (upTo(8) != 0) {
            build();
        }
        if (upTo(4) == 0) {
            askAllGuarded();
        }
        int change = upTo(3) == 0 ? 10 : 400;
        while (calls + 4 <= CALLS && !failed) {
            int kind = upTo(20);
            if (upTo(change) == 0) {
                switch (upTo(3)) {
                    case 0 -> add();
                    case 1 -> allow();
                    default -> protect();
                }
            } else if (upTo(m.running == null ? 2 : m.state != 0 ? 3 : 12) == 0) {
                if (m.guarded == null && upTo(3) == 0) {
                    protect();
                }
                start();
                overwrite();
                overwrite();
            } else if (kind < 6) {
                run();
            } else if (kind < 11) {
                overwrite();
            } else {
                ask();
            }
        }
    }

    public static void main(String[] args) {
        for (int seed = 0; seed < RUNS && wrong < 3; seed++) {
            new ModelTests(seed).play();
        }
        System.out.println("after run: idle " + ends[0] + ", runs " + ends[1] + ", halted " + ends[2] + ", violation "
            + ends[3] + ", astray " + ends[4] + "; joined labels " + joined + ", full edges " + fullEdges);
        boolean thin = ends[0] < 1000 || ends[1] < 1000 || ends[2] < 1000 || ends[3] < 1000 || ends[4] < 300
            || joined < 1000 || fullEdges < 50;
        if (wrong == 0 && thin) {
            System.out.println("the runs no longer reach what they are meant to test");
        }
        System.out.println(wrong == 0 ? "all answers are as due" : wrong + " runs are not as due");
        if (wrong != 0 || thin) {
            System.exit(1);
        }
    }
}
