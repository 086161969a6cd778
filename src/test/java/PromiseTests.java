/** For each promise of the document: ordinary inputs, the edges that it names, and wrong inputs. */
public final class PromiseTests {
    private static final int LEAST = Integer.MIN_VALUE;
    private static final int MOST = Integer.MAX_VALUE;
    private static int wrong = 0;
    private static String promise = "";

    private static void due(String call, int got, int want) {
        if (got != want) {
            wrong++;
            System.out.println(promise + ": " + call + " answered " + got + ", due is " + want);
        }
    }

    private static void due(String call, boolean got, boolean want) {
        due(call, got ? 1 : 0, want ? 1 : 0);
    }

    /** A source of these instructions, three numbers each. */
    private static JumpGuard of(int... numbers) {
        JumpGuard x = new JumpGuard();
        for (int i = 0; i < numbers.length; i += 3) {
            due("add while making", x.add(numbers[i], numbers[i + 1], numbers[i + 2]), i / 3);
        }
        return x;
    }

    private static JumpGuard filled(int count, int op, int a, int b) {
        JumpGuard x = new JumpGuard();
        for (int i = 0; i < count; i++) {
            due("add while filling", x.add(op, a, b), i);
        }
        return x;
    }

    private static void dueGuarded(JumpGuard x, int... numbers) {
        int size = numbers.length / 3;
        for (int i = 0; i < numbers.length; i++) {
            due("guarded(" + i / 3 + ", " + i % 3 + ")", x.guarded(i / 3, i % 3), numbers[i]);
        }
        due("guarded(size, 0)", x.guarded(size, 0), -9);
    }

    private static void dueNothingGuarded(JumpGuard x) {
        due("guarded(0, 0) without one", x.guarded(0, 0), -9);
        due("place(0) without one", x.place(0), -1);
        due("start(true) without one", x.start(true), false);
        due("start(false) without one", x.start(false), false);
    }

    private static void dueNothingRuns(JumpGuard x) {
        due("state() idle", x.state(), -1);
        due("run(5) idle", x.run(5), 0);
        due("pc() idle", x.pc(), -1);
        due("overwrite(0, 1) idle", x.overwrite(0, 1), false);
        for (int i = 0; i < 16; i++) {
            due("memory idle", x.memory(i), 0);
            due("register idle", x.register(i), 0);
            due("shown idle", x.shown(i), 0);
        }
        due("shows() idle", x.shows(), 0);
    }

    /** Registers, a cell and what was shown are not 0, and the PC is not 0, after six steps. */
    private static JumpGuard busy(boolean guards) {
        JumpGuard x = of(1, 0, 7, 1, 1, 8, 1, 2, 9, 1, 3, 10, 3, 0, 2, 5, 1, 0, 8, 3, 0, 0, 0, 0);
        due("allow(6, 7)", x.allow(6, 7), true);
        due("protect() of busy", x.protect(), 10);
        due("start of busy", x.start(guards), true);
        due("run(6) of busy", x.run(6), 6);
        due("state() of busy", x.state(), 0);
        due("pc() of busy", x.pc(), 6);
        due("memory(2) of busy", x.memory(2), 7);
        due("shown(0) of busy", x.shown(0), 8);
        return x;
    }

    private static void dueStillBusy(String after, JumpGuard x) {
        due("state() after " + after, x.state(), 0);
        due("pc() after " + after, x.pc(), 6);
        due("register(3) after " + after, x.register(3), 10);
        due("memory(2) after " + after, x.memory(2), 7);
        due("shows() after " + after, x.shows(), 1);
        due("place(7) after " + after, x.place(7), 8);
        due("guarded(9, 0) after " + after, x.guarded(9, 0), 0);
    }

    private static void newObject() {
        promise = "promise 1";
        JumpGuard x = new JumpGuard();
        due("source(0, 0)", x.source(0, 0), -9);
        due("label(0)", x.label(0), -1);
        due("allow(0, 0)", x.allow(0, 0), false);
        dueNothingGuarded(x);
        dueNothingRuns(x);
        due("add(0, 0, 0)", x.add(0, 0, 0), 0);
        due("add(0, 0, 0)", new JumpGuard().add(0, 0, 0), 0);
    }

    private static void addTakesEveryOp() {
        promise = "promise 2, taken";
        JumpGuard x = of(
            0, LEAST, MOST, 1, 0, LEAST, 1, 3, MOST, 2, 0, 0, 2, 3, 15, 3, 0, 15, 3, 3, 0,
            4, 0, 3, 4, 3, 0, 5, 0, -1, 5, 3, 99, 6, 0, -7, 6, 23, 77, 7, 0, 23, 7, 3, 0,
            8, 0, LEAST, 8, 3, MOST, 9, 0, 23, 9, 3, 0);
        due("source(0, 1)", x.source(0, 1), LEAST);
        due("source(0, 2)", x.source(0, 2), MOST);
        due("source(18, 0)", x.source(18, 0), 9);
        due("source(19, 0)", x.source(19, 0), -9);
    }

    private static void addRefuses() {
        promise = "promise 2, refused";
        int[] bad = {
            -1, 0, 0, 10, 0, 0, 11, 0, 0, LEAST, 0, 0, MOST, 0, 0,
            1, -1, 0, 1, 4, 0, 2, -1, 0, 2, 4, 0, 3, -1, 0, 3, 4, 0, 4, -1, 0, 4, 4, 0, 5, -1, 0, 5, 4, 0,
            7, -1, 0, 7, 4, 0, 8, -1, 0, 8, 4, 0, 9, -1, 0, 9, 4, 0,
            4, 0, -1, 4, 0, 4, 2, 0, -1, 2, 0, 16, 3, 0, -1, 3, 0, 16,
            6, -1, 0, 6, 24, 0, 7, 0, -1, 7, 0, 24, 9, 0, -1, 9, 0, 24,
            1, LEAST, 0, 2, 0, LEAST, 3, 0, MOST, 4, 0, MOST, 6, MOST, 0, 7, 0, LEAST, 9, 0, MOST};
        JumpGuard x = new JumpGuard();
        JumpGuard full = filled(24, 0, 0, 0);
        for (int i = 0; i < bad.length; i += 3) {
            String call = "add(" + bad[i] + ", " + bad[i + 1] + ", " + bad[i + 2] + ")";
            due(call, x.add(bad[i], bad[i + 1], bad[i + 2]), -1);
            due(call + " when full", full.add(bad[i], bad[i + 1], bad[i + 2]), -1);
        }
        due("source(0, 0) after refusals", x.source(0, 0), -9);
        due("add when full", full.add(5, 3, 0), -2);
        due("source(23, 0)", full.source(23, 0), 0);
        due("source(24, 0)", full.source(24, 0), -9);
    }

    private static void addEndsGuarding() {
        promise = "promise 2, what it ends";
        JumpGuard x = busy(true);
        due("add(10, 0, 0)", x.add(10, 0, 0), -1);
        dueStillBusy("a refused add", x);
        due("add(0, 0, 0)", x.add(0, 0, 0), 8);
        dueNothingGuarded(x);
        dueNothingRuns(x);
        due("label(7) is kept", x.label(7), 8);
        JumpGuard full = filled(24, 0, 0, 0);
        due("protect()", full.protect(), 24);
        due("start(true)", full.start(true), true);
        due("add when full", full.add(0, 0, 0), -2);
        due("state() after add when full", full.state(), 0);
        due("place(23) after add when full", full.place(23), 23);
    }

    private static void allowTakesAndRefuses() {
        promise = "promise 3";
        JumpGuard x = of(8, 0, 0, 6, 0, 0, 8, 1, 0, 0, 0, 0);
        due("allow(0, 0)", x.allow(0, 0), true);
        due("allow(0, 3)", x.allow(0, 3), true);
        due("allow(2, 3)", x.allow(2, 3), true);
        due("allow(0, 3) again", x.allow(0, 3), false);
        due("allow(1, 0)", x.allow(1, 0), false);
        due("allow(3, 0)", x.allow(3, 0), false);
        due("allow(4, 0)", x.allow(4, 0), false);
        due("allow(-1, 0)", x.allow(-1, 0), false);
        due("allow(LEAST, 0)", x.allow(LEAST, 0), false);
        due("allow(MOST, 0)", x.allow(MOST, 0), false);
        due("allow(0, -1)", x.allow(0, -1), false);
        due("allow(0, 4)", x.allow(0, 4), false);
        due("allow(0, 32)", x.allow(0, 32), false);
        due("allow(0, LEAST)", x.allow(0, LEAST), false);
        due("allow(0, MOST)", x.allow(0, MOST), false);
        due("label(1)", x.label(1), 0);
        due("add(0, 0, 0)", x.add(0, 0, 0), 4);
        due("allow(0, 4) now", x.allow(0, 4), true);
    }

    private static void allowTakesFortyEight() {
        promise = "promise 3, 48 edges";
        JumpGuard x = filled(24, 8, 0, 0);
        for (int i = 0; i < 48; i++) {
            due("allow " + i, x.allow(i % 24, i / 24), true);
        }
        due("allow(0, 2)", x.allow(0, 2), false);
        due("label(2)", x.label(2), 0);
        due("allow(23, 23)", x.allow(23, 23), false);
        due("allow(5, 1) again", x.allow(5, 1), false);
        due("protect()", x.protect(), 50);
        due("allow(0, 2) when protected", x.allow(0, 2), false);
        due("place(23) after it", x.place(23), 48);
    }

    private static void allowEndsGuarding() {
        promise = "promise 3, what it ends";
        JumpGuard x = busy(false);
        due("allow(6, 7) again", x.allow(6, 7), false);
        due("allow(5, 7)", x.allow(5, 7), false);
        due("allow(6, 8)", x.allow(6, 8), false);
        dueStillBusy("a refused allow", x);
        due("allow(6, 0)", x.allow(6, 0), true);
        dueNothingGuarded(x);
        dueNothingRuns(x);
    }

    private static void protectRefuses() {
        promise = "promise 4, refused";
        due("protect() of nothing", new JumpGuard().protect(), -1);
        int[] last = {0, 6, 8};
        for (int op = 0; op <= 9; op++) {
            boolean fine = op == last[0] || op == last[1] || op == last[2];
            due("protect() with last op " + op, of(0, 0, 0, op, 0, 0).protect(), fine ? op == 8 ? 3 : 2 : -1);
        }
        for (int address = 0; address < 24; address++) {
            int want = address < 2 ? 2 : -1;
            due("protect() op 6 to " + address, of(6, address, 0, 0, 0, 0).protect(), want);
            due("protect() op 7 to " + address, of(7, 0, address, 0, 0, 0).protect(), want);
            due("protect() op 9 to " + address, of(9, 0, address, 0, 0, 0).protect(), want);
        }
        due("protect() last op 6 to 1", of(0, 0, 0, 6, 1, 0).protect(), 2);
        due("protect() last op 6 to 2", of(0, 0, 0, 6, 2, 0).protect(), -1);
        due("protect() with numbers not used", of(6, 1, 99, 1, 0, 99, 8, 3, 99, 0, 99, 99).protect(), 5);
        JumpGuard x = of(6, 2, 0);
        due("protect() too early", x.protect(), -1);
        dueNothingGuarded(x);
        dueNothingRuns(x);
        due("add", x.add(5, 0, 0), 1);
        due("add", x.add(0, 0, 0), 2);
        due("protect() in time", x.protect(), 3);
        due("protect() again", x.protect(), 3);
    }

    private static void protectEndsRunning() {
        promise = "promise 4, what it ends";
        JumpGuard x = busy(true);
        due("protect()", x.protect(), 10);
        dueNothingRuns(x);
        due("place(7)", x.place(7), 8);
        due("start(true)", x.start(true), true);
        due("pc()", x.pc(), 0);
    }

    private static void protectBuilds() {
        promise = "promise 4, guarded program";
        JumpGuard x = of(9, 1, 5, 7, 2, 4, 6, 3, -5, 8, 1, 44, 8, 2, 0, 8, 3, 1, 6, 0, 6, 0, 4, 4);
        due("allow(3, 5)", x.allow(3, 5), true);
        due("allow(3, 4)", x.allow(3, 4), true);
        due("allow(5, 0)", x.allow(5, 0), true);
        due("protect()", x.protect(), 14);
        dueGuarded(x,
            10, 1, 0, 9, 1, 9,
            7, 2, 6,
            6, 4, -5,
            11, 1, 5, 8, 1, 44,
            10, 5, 0, 11, 2, 0, 8, 2, 0,
            10, 5, 0, 11, 3, 1, 8, 3, 1,
            6, 0, 6,
            0, 4, 4);
        int[] places = {0, 2, 3, 4, 6, 9, 12, 13};
        for (int i = 0; i < places.length; i++) {
            due("place(" + i + ")", x.place(i), places[i]);
        }
        JumpGuard most = filled(24, 8, 3, 0);
        for (int i = 0; i < 24; i++) {
            due("allow", most.allow(i, 23 - i), true);
        }
        due("protect() of the most", most.protect(), 72);
        due("guarded(71, 0)", most.guarded(71, 0), 8);
        due("guarded(70, 2)", most.guarded(70, 2), 1);
        due("guarded(69, 1)", most.guarded(69, 1), 24);
        due("guarded(72, 0)", most.guarded(72, 0), -9);
        due("place(23)", most.place(23), 69);
    }

    private static void sourceAnswers() {
        promise = "promise 5";
        JumpGuard x = of(9, 1, 1, 7, 2, 0, 0, -3, -4);
        int[] numbers = {9, 1, 1, 7, 2, 0, 0, -3, -4};
        due("protect()", x.protect(), 3);
        for (int i = 0; i < numbers.length; i++) {
            due("source(" + i / 3 + ", " + i % 3 + ")", x.source(i / 3, i % 3), numbers[i]);
        }
        int[] outside = {LEAST, -1, 3, 24, MOST};
        for (int o : outside) {
            due("source(" + o + ", 0)", x.source(o, 0), -9);
            due("source(0, " + o + ")", x.source(0, o), -9);
            due("source(1, " + o + ")", x.source(1, o), -9);
        }
    }

    private static void guardedAnswers() {
        promise = "promise 6";
        JumpGuard x = of(8, 2, 5, 0, -3, -4);
        due("allow(0, 1)", x.allow(0, 1), true);
        due("guarded(0, 0) before", x.guarded(0, 0), -9);
        due("protect()", x.protect(), 4);
        dueGuarded(x, 11, 2, 2, 8, 2, 5, 10, 2, 0, 0, -3, -4);
        int[] outside = {LEAST, -1, 4, 72, MOST};
        for (int o : outside) {
            due("guarded(" + o + ", 0)", x.guarded(o, 0), -9);
            due("guarded(0, " + o + ")", x.guarded(0, o), -9);
            due("guarded(1, " + o + ")", x.guarded(1, o), -9);
        }
        due("guarded(0, 3)", x.guarded(0, 3), -9);
    }

    private static void placeAnswers() {
        promise = "promise 7";
        JumpGuard x = of(8, 0, 0, 8, 1, 0, 0, 0, 0);
        due("place(0) before", x.place(0), -1);
        due("allow(1, 1)", x.allow(1, 1), true);
        due("protect()", x.protect(), 6);
        due("place(0)", x.place(0), 0);
        due("place(1)", x.place(1), 2);
        due("place(2)", x.place(2), 5);
        due("place(3)", x.place(3), -1);
        due("place(-1)", x.place(-1), -1);
        due("place(24)", x.place(24), -1);
        due("place(LEAST)", x.place(LEAST), -1);
        due("place(MOST)", x.place(MOST), -1);
        due("allow(1, 0)", x.allow(1, 0), true);
        due("place(1) after allow", x.place(1), -1);
        due("protect()", x.protect(), 7);
        due("place(1)", x.place(1), 3);
    }

    private static void labelAnswers() {
        promise = "promise 8";
        JumpGuard x = filled(12, 8, 0, 0);
        due("label(11)", x.label(11), 0);
        due("label(12)", x.label(12), -1);
        due("label(-1)", x.label(-1), -1);
        due("label(LEAST)", x.label(LEAST), -1);
        due("label(MOST)", x.label(MOST), -1);
        due("allow(0, 9)", x.allow(0, 9), true);
        due("label(9)", x.label(9), 10);
        due("label(0) is a jump alone", x.label(0), 0);
        due("allow(1, 9)", x.allow(1, 9), true);
        due("allow(1, 5)", x.allow(1, 5), true);
        due("label(9) joined", x.label(9), 6);
        due("label(5)", x.label(5), 6);
        due("allow(9, 3)", x.allow(9, 3), true);
        due("label(3): a jump that is a target joins nothing", x.label(3), 4);
        due("label(9)", x.label(9), 6);
        due("allow(2, 7)", x.allow(2, 7), true);
        due("allow(2, 8)", x.allow(2, 8), true);
        due("label(8)", x.label(8), 8);
        due("allow(2, 5)", x.allow(2, 5), true);
        due("label(8) by a chain", x.label(8), 6);
        due("label(7) by a chain", x.label(7), 6);
        due("allow(9, 8)", x.allow(9, 8), true);
        int[] numbers = {0, 0, 0, 4, 0, 4, 0, 4, 4, 4, 0, 0};
        for (int i = 0; i < numbers.length; i++) {
            due("label(" + i + ")", x.label(i), numbers[i]);
        }
        due("protect()", x.protect(), 29);
        for (int i = 0; i < 12; i++) {
            int guard = x.place(i) + (numbers[i] == 0 ? 0 : 1);
            due("guard of " + i, x.guarded(guard, 2), i <= 2 || i == 9 ? 4 : 0);
        }
        due("label(9) when protected", x.label(9), 4);
    }

    private static void startBegins() {
        promise = "promise 9";
        JumpGuard x = busy(true);
        for (int i = 0; i < 16; i++) {
            due("overwrite", x.overwrite(i, 5), true);
        }
        for (int turn = 0; turn < 2; turn++) {
            due("start", x.start(turn == 0), true);
            due("state()", x.state(), 0);
            due("pc()", x.pc(), 0);
            due("shows()", x.shows(), 0);
            for (int i = 0; i < 16; i++) {
                due("memory(" + i + ")", x.memory(i), 0);
                due("register(" + i + ")", x.register(i), 0);
                due("shown(" + i + ")", x.shown(i), 0);
            }
            due("run(6)", x.run(6), 6);
            due("register(3)", x.register(3), 10);
        }
        JumpGuard y = of(0, 0, 0);
        due("start(true)", y.start(true), false);
        due("start(false)", y.start(false), false);
        due("state()", y.state(), -1);
        due("protect()", y.protect(), 1);
        due("start(true)", y.start(true), true);
        due("run(2)", y.run(2), 1);
        due("start(false) after the end", y.start(false), true);
        due("state()", y.state(), 0);
        due("run(2)", y.run(2), 1);
    }

    private static void startChooses() {
        promise = "promise 9, which program";
        JumpGuard x = of(8, 0, 0, 0, 0, 0);
        due("protect()", x.protect(), 3);
        due("start(true)", x.start(true), true);
        due("run(9)", x.run(9), 1);
        due("state() guarded", x.state(), 2);
        due("start(false)", x.start(false), true);
        due("run(9)", x.run(9), 9);
        due("state() source", x.state(), 0);
    }

    private static void runCounts() {
        promise = "promise 10, counts";
        JumpGuard x = of(6, 0, 0);
        due("run(1) idle", x.run(1), 0);
        due("protect()", x.protect(), 1);
        due("run(1) before the start", x.run(1), 0);
        due("start(false)", x.start(false), true);
        due("run(0)", x.run(0), 0);
        due("run(1)", x.run(1), 1);
        due("run(1000)", x.run(1000), 1000);
        due("run(1001)", x.run(1001), 0);
        due("run(-1)", x.run(-1), 0);
        due("run(LEAST)", x.run(LEAST), 0);
        due("run(MOST)", x.run(MOST), 0);
        due("state()", x.state(), 0);
        JumpGuard y = of(5, 0, 0, 6, 0, 0);
        due("protect()", y.protect(), 2);
        due("start(true)", y.start(true), true);
        due("run(1001)", y.run(1001), 0);
        due("pc()", y.pc(), 0);
        due("run(1000)", y.run(1000), 1000);
        due("shows()", y.shows(), 500);
    }

    private static void runEnds() {
        promise = "promise 10, ends";
        JumpGuard x = of(1, 0, 1, 0, 0, 0);
        due("protect()", x.protect(), 2);
        due("start(false)", x.start(false), true);
        due("run(1)", x.run(1), 1);
        due("state() before the halt", x.state(), 0);
        due("pc() before the halt", x.pc(), 1);
        due("run(1)", x.run(1), 1);
        due("state()", x.state(), 1);
        due("pc()", x.pc(), 1);
        due("run(1) after the end", x.run(1), 0);
        due("pc()", x.pc(), 1);
        int[] astray = {LEAST, -1, 3, 24, MOST};
        JumpGuard y = of(2, 2, 15, 8, 2, 0, 0, 0, 0);
        due("allow(1, 2)", y.allow(1, 2), true);
        due("protect()", y.protect(), 5);
        for (int v : astray) {
            due("start(false)", y.start(false), true);
            due("overwrite", y.overwrite(15, v), true);
            due("run(9) astray to " + v, y.run(9), 2);
            due("state()", y.state(), 3);
            due("pc()", y.pc(), 1);
            due("run(9) after it", y.run(9), 0);
        }
        int[] violation = {LEAST, -1, 0, 1, 2, 4, 5, 24, MOST};
        for (int v : violation) {
            due("start(true)", y.start(true), true);
            due("overwrite", y.overwrite(15, v), true);
            due("run(9) violation to " + v, y.run(9), 2);
            due("state()", y.state(), 2);
            due("pc()", y.pc(), 1);
            due("run(9) after it", y.run(9), 0);
        }
        due("start(true)", y.start(true), true);
        due("overwrite", y.overwrite(15, 3), true);
        due("run(9) to the label", y.run(9), 5);
        due("state()", y.state(), 1);
        due("pc()", y.pc(), 4);
    }

    private static void runDoesEveryOp() {
        promise = "promise 10, ops";
        JumpGuard x = of(
            1, 3, MOST, 1, 2, 1, 4, 3, 2, 5, 3, 0, 4, 2, 2, 3, 2, 15, 2, 1, 15, 4, 1, 2,
            7, 0, 10, 0, 0, 0, 7, 1, 0, 6, 13, 0, 0, 0, 0, 9, 0, 16, 8, 0, 0, 0, 0, 0, 5, 0, 0, 0, 0, 0);
        due("allow(14, 16)", x.allow(14, 16), true);
        due("protect()", x.protect(), 20);
        int[] pcs = {1, 2, 3, 4, 5, 6, 7, 8, 10, 11, 13, 14, 16, 17, 17};
        due("start(false)", x.start(false), true);
        for (int pc : pcs) {
            due("run(1)", x.run(1), 1);
            due("pc()", x.pc(), pc);
        }
        due("register(3) wraps", x.register(3), LEAST);
        due("register(2) doubled", x.register(2), 2);
        due("register(1)", x.register(1), 4);
        due("register(0)", x.register(0), 16);
        due("memory(15)", x.memory(15), 2);
        due("shown(1)", x.shown(1), LEAST);
        due("shown(0)", x.shown(0), 16);
        due("start(true)", x.start(true), true);
        due("run(100)", x.run(100), 17);
        due("register(0) has the place", x.register(0), 17);
        due("pc()", x.pc(), 19);
        due("state()", x.state(), 1);
    }

    private static void guardsHold() {
        promise = "promise 10, guards";
        JumpGuard x = of(2, 0, 0, 8, 0, 0, 2, 0, 1, 8, 0, 0, 5, 0, 0, 0, 0, 0, 0, 0, 0);
        due("allow(1, 2)", x.allow(1, 2), true);
        due("allow(1, 4)", x.allow(1, 4), true);
        due("allow(3, 5)", x.allow(3, 5), true);
        due("protect()", x.protect(), 12);
        int[] ends = {2, 2, 2, 0, 2, 2, 2, 0, 2, 2, 2, 2};
        for (int to = 0; to < ends.length; to++) {
            due("start(true)", x.start(true), true);
            due("overwrite", x.overwrite(0, to), true);
            due("run(3)", x.run(3), ends[to] == 2 ? 2 : 3);
            due("state() on the way to " + to, x.state(), ends[to]);
            due("pc()", x.pc(), ends[to] == 2 ? 1 : to);
        }
        due("start(true)", x.start(true), true);
        due("overwrite", x.overwrite(0, 3), true);
        due("overwrite", x.overwrite(1, 7), true);
        due("run(9)", x.run(9), 6);
        due("state() with the label of another class", x.state(), 2);
        due("pc()", x.pc(), 5);
        JumpGuard none = of(1, 1, 0, 8, 1, 0, 0, 0, 0);
        due("protect()", none.protect(), 4);
        due("start(true)", none.start(true), true);
        due("run(9) with a jump without targets", none.run(9), 2);
        due("state()", none.state(), 2);
    }

    private static void guardChecksTheRegister() {
        promise = "promise 10, guard and memory";
        JumpGuard x = of(2, 0, 0, 8, 0, 0, 0, 0, 0);
        due("allow(1, 2)", x.allow(1, 2), true);
        due("protect()", x.protect(), 5);
        due("start(true)", x.start(true), true);
        due("overwrite", x.overwrite(0, 3), true);
        due("run(2)", x.run(2), 2);
        due("overwrite between guard and jump", x.overwrite(0, 99), true);
        due("run(9)", x.run(9), 3);
        due("state()", x.state(), 1);
    }

    private static void stateAnswers() {
        promise = "promise 11";
        JumpGuard x = of(2, 0, 0, 8, 0, 0, 0, 0, 0);
        due("state() new", x.state(), -1);
        due("allow(1, 2)", x.allow(1, 2), true);
        due("protect()", x.protect(), 5);
        due("state() protected", x.state(), -1);
        due("start(true)", x.start(true), true);
        due("state()", x.state(), 0);
        due("run(0)", x.run(0), 0);
        due("state()", x.state(), 0);
        due("run(9)", x.run(9), 2);
        due("state() violation", x.state(), 2);
        due("start(false)", x.start(false), true);
        due("overwrite", x.overwrite(0, 2), true);
        due("run(9)", x.run(9), 3);
        due("state() halted", x.state(), 1);
        due("start(false)", x.start(false), true);
        due("overwrite", x.overwrite(0, 3), true);
        due("run(9)", x.run(9), 2);
        due("state() astray", x.state(), 3);
        due("protect()", x.protect(), 5);
        due("state()", x.state(), -1);
    }

    private static void overwriteAndMemory() {
        promise = "promises 12 and 13";
        JumpGuard x = of(3, 0, 4, 0, 0, 0);
        due("protect()", x.protect(), 2);
        due("overwrite(0, 1) before the start", x.overwrite(0, 1), false);
        due("start(true)", x.start(true), true);
        due("memory(0)", x.memory(0), 0);
        int[] outside = {LEAST, -1, 16, 17, MOST};
        for (int o : outside) {
            due("overwrite(" + o + ", 1)", x.overwrite(o, 1), false);
            due("memory(" + o + ")", x.memory(o), 0);
        }
        for (int i = 0; i < 16; i++) {
            due("overwrite", x.overwrite(i, LEAST + i), true);
        }
        for (int i = 0; i < 16; i++) {
            due("memory(" + i + ")", x.memory(i), LEAST + i);
        }
        due("run(9)", x.run(9), 2);
        due("memory(4)", x.memory(4), 0);
        due("memory(15) after the end", x.memory(15), LEAST + 15);
        due("overwrite(4, 6) after the end", x.overwrite(4, 6), true);
        due("memory(4)", x.memory(4), 6);
        due("overwrite(16, 6) after the end", x.overwrite(16, 6), false);
        due("state() after it", x.state(), 1);
        due("protect()", x.protect(), 2);
        due("overwrite(4, 6) idle", x.overwrite(4, 6), false);
        due("memory(4) idle", x.memory(4), 0);
    }

    private static void registerAnswers() {
        promise = "promise 14";
        JumpGuard x = of(1, 0, -1, 1, 1, -2, 1, 2, -3, 1, 3, -4, 0, 0, 0);
        due("protect()", x.protect(), 5);
        due("register(0) before the start", x.register(0), 0);
        due("start(true)", x.start(true), true);
        due("run(9)", x.run(9), 5);
        for (int i = 0; i < 4; i++) {
            due("register(" + i + ")", x.register(i), -1 - i);
        }
        int[] outside = {LEAST, -1, 4, 5, MOST};
        for (int o : outside) {
            due("register(" + o + ")", x.register(o), 0);
        }
        due("protect()", x.protect(), 5);
        due("register(0) idle", x.register(0), 0);
    }

    private static void pcAnswers() {
        promise = "promise 15";
        JumpGuard x = of(6, 2, 0, 0, 0, 0, 6, 1, 0);
        due("pc() new", x.pc(), -1);
        due("protect()", x.protect(), 3);
        due("pc() protected", x.pc(), -1);
        due("start(true)", x.start(true), true);
        due("pc()", x.pc(), 0);
        due("run(1)", x.run(1), 1);
        due("pc()", x.pc(), 2);
        due("run(1)", x.run(1), 1);
        due("pc()", x.pc(), 1);
        due("run(1)", x.run(1), 1);
        due("pc() at the end", x.pc(), 1);
        due("add", x.add(0, 0, 0), 3);
        due("pc() idle", x.pc(), -1);
    }

    private static void showsAndShown() {
        promise = "promises 16 and 17";
        JumpGuard x = of(1, 1, 3, 4, 0, 1, 5, 0, 0, 6, 1, 0);
        due("protect()", x.protect(), 4);
        due("start(true)", x.start(true), true);
        due("run(1)", x.run(1), 1);
        for (int times = 0; times <= 20; times++) {
            due("shows()", x.shows(), times);
            for (int k = 0; k < 9; k++) {
                int want = k < 8 && k < times ? 3 * (times - k) : 0;
                due("shown(" + k + ") of " + times, x.shown(k), want);
            }
            due("run(3)", x.run(3), 3);
        }
        int[] outside = {LEAST, -1, 8, 9, 16, MOST};
        for (int o : outside) {
            due("shown(" + o + ")", x.shown(o), 0);
        }
        due("start(true)", x.start(true), true);
        due("shows() anew", x.shows(), 0);
        due("shown(0) anew", x.shown(0), 0);
        due("run(4)", x.run(4), 4);
        due("shown(0)", x.shown(0), 3);
        due("shown(1) is not from the run before", x.shown(1), 0);
        due("protect()", x.protect(), 4);
        due("shows() idle", x.shows(), 0);
        due("shown(0) idle", x.shown(0), 0);
    }

    private static void objectsAreApart() {
        promise = "promise 1, two objects";
        JumpGuard x = busy(true);
        JumpGuard y = busy(false);
        due("add to the other", y.add(0, 0, 0), 8);
        dueStillBusy("a call on another object", x);
    }

    public static void main(String[] args) {
        newObject();
        objectsAreApart();
        addTakesEveryOp();
        addRefuses();
        addEndsGuarding();
        allowTakesAndRefuses();
        allowTakesFortyEight();
        allowEndsGuarding();
        protectRefuses();
        protectEndsRunning();
        protectBuilds();
        sourceAnswers();
        guardedAnswers();
        placeAnswers();
        labelAnswers();
        startBegins();
        startChooses();
        runCounts();
        runEnds();
        runDoesEveryOp();
        guardsHold();
        guardChecksTheRegister();
        stateAnswers();
        overwriteAndMemory();
        registerAnswers();
        pcAnswers();
        showsAndShown();
        System.out.println(wrong == 0 ? "all answers are as due" : wrong + " answers are not as due");
        if (wrong != 0) {
            System.exit(1);
        }
    }
}
