import java.util.ArrayList;
import java.util.List;

/** A JumpGuard under test. It keeps its run of calls, to tell it when an answer is not as due. */
final class Subject {
    static final int LEAST = Integer.MIN_VALUE;
    static final int MOST = Integer.MAX_VALUE;
    // What later calls answer is free, so a test that makes more would test nothing.
    private static final int MOST_CALLS = 512;

    private final JumpGuard x = new JumpGuard();
    private final List<String> told = new ArrayList<>();
    private int answer = 0;

    /** A source of these instructions, three numbers each. */
    static Subject of(int... numbers) {
        Subject s = new Subject();
        for (int i = 0; i < numbers.length; i += 3) {
            s.add(numbers[i], numbers[i + 1], numbers[i + 2]).is(i / 3);
        }
        return s;
    }

    /** A source of one instruction, count times. */
    static Subject filled(int count, int op, int a, int b) {
        Subject s = new Subject();
        for (int i = 0; i < count; i++) {
            s.add(op, a, b).is(i);
        }
        return s;
    }

    private Subject tell(String call, int got) {
        told.add(call + " = " + got);
        answer = got;
        if (told.size() > MOST_CALLS) {
            throw new IllegalStateException("a test makes more than 512 calls");
        }
        return this;
    }

    private Subject tell(String call, boolean got) {
        return tell(call, got ? 1 : 0);
    }

    /** The answer of the last call that is due. */
    Subject is(int want) {
        if (answer != want) {
            int from = Math.max(0, told.size() - 25);
            Report.wrong("call " + told.size() + ", due is " + want + ": " + told.subList(from, told.size()));
        }
        return this;
    }

    Subject is(boolean want) {
        return is(want ? 1 : 0);
    }

    int answer() {
        return answer;
    }

    String lastCall() {
        return told.isEmpty() ? "no call" : told.get(told.size() - 1);
    }

    int calls() {
        return told.size();
    }

    Subject add(int op, int a, int b) {
        return tell("add(" + op + ", " + a + ", " + b + ")", x.add(op, a, b));
    }

    Subject allow(int jump, int target) {
        return tell("allow(" + jump + ", " + target + ")", x.allow(jump, target));
    }

    Subject protect() {
        return tell("protect()", x.protect());
    }

    Subject source(int i, int field) {
        return tell("source(" + i + ", " + field + ")", x.source(i, field));
    }

    Subject guarded(int i, int field) {
        return tell("guarded(" + i + ", " + field + ")", x.guarded(i, field));
    }

    Subject place(int i) {
        return tell("place(" + i + ")", x.place(i));
    }

    Subject label(int i) {
        return tell("label(" + i + ")", x.label(i));
    }

    Subject start(boolean guards) {
        return tell("start(" + guards + ")", x.start(guards));
    }

    Subject run(int n) {
        return tell("run(" + n + ")", x.run(n));
    }

    Subject state() {
        return tell("state()", x.state());
    }

    Subject overwrite(int cell, int v) {
        return tell("overwrite(" + cell + ", " + v + ")", x.overwrite(cell, v));
    }

    Subject memory(int cell) {
        return tell("memory(" + cell + ")", x.memory(cell));
    }

    Subject register(int r) {
        return tell("register(" + r + ")", x.register(r));
    }

    Subject pc() {
        return tell("pc()", x.pc());
    }

    Subject shows() {
        return tell("shows()", x.shows());
    }

    Subject shown(int k) {
        return tell("shown(" + k + ")", x.shown(k));
    }

    /** Every question, with every number that it may have and one more on each side: 393 calls. */
    List<String> answers() {
        int before = told.size();
        askPrograms();
        askMachine();
        return new ArrayList<>(told.subList(before, told.size()));
    }

    private void askPrograms() {
        for (int field = 0; field < 3; field++) {
            for (int i = -1; i <= 24; i++) {
                source(i, field);
            }
            for (int i = -1; i <= 72; i++) {
                guarded(i, field);
            }
        }
        source(0, -1);
        source(0, 3);
        guarded(0, -1);
        guarded(0, 3);
        for (int i = -1; i <= 24; i++) {
            place(i);
            label(i);
        }
    }

    private void askMachine() {
        state();
        pc();
        shows();
        for (int cell = -1; cell <= 16; cell++) {
            memory(cell);
        }
        for (int r = -1; r <= 4; r++) {
            register(r);
        }
        for (int k = -1; k <= 8; k++) {
            shown(k);
        }
    }

    /** What becomes of it, which may tell more than the questions do: some 160 calls. */
    List<String> future() {
        int before = told.size();
        run(1);
        askMachine();
        run(1000);
        askMachine();
        protect();
        start(true);
        run(1000);
        askMachine();
        start(false);
        overwrite(5, 2);
        run(1000);
        askMachine();
        add(8, 1, 0);
        allow(answer, 0);
        protect();
        return new ArrayList<>(told.subList(before, told.size()));
    }

    /** No guarded program: each question and call that asks for one. */
    Subject isNotGuarded() {
        for (int field = 0; field < 3; field++) {
            guarded(0, field).is(-9);
        }
        place(0).is(-1);
        start(true).is(false);
        start(false).is(false);
        return this;
    }

    /** Nothing runs: each question and call that asks for it. */
    Subject isIdle() {
        state().is(-1);
        pc().is(-1);
        run(1).is(0);
        run(1000).is(0);
        shows().is(0);
        for (int cell = 0; cell < 16; cell++) {
            overwrite(cell, 5).is(false);
            memory(cell).is(0);
        }
        for (int r = 0; r < 4; r++) {
            register(r).is(0);
        }
        for (int k = 0; k < 8; k++) {
            shown(k).is(0);
        }
        return this;
    }

    Subject isSource(int... numbers) {
        for (int i = 0; i < numbers.length; i++) {
            source(i / 3, i % 3).is(numbers[i]);
        }
        return source(numbers.length / 3, 0).is(-9);
    }

    Subject isGuarded(int... numbers) {
        for (int i = 0; i < numbers.length; i++) {
            guarded(i / 3, i % 3).is(numbers[i]);
        }
        return guarded(numbers.length / 3, 0).is(-9);
    }

    Subject isShown(int... latestFirst) {
        for (int k = 0; k < latestFirst.length; k++) {
            shown(k).is(latestFirst[k]);
        }
        return this;
    }
}
