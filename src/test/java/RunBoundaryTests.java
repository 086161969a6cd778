/** Each sentence of promises 9 to 17 that names a boundary case, at the boundary and on both sides of it. */
public final class RunBoundaryTests {
    private static final int LEAST = Subject.LEAST;
    private static final int MOST = Subject.MOST;
    private static final boolean[] BOTH = {false, true};

    private static Subject begun(boolean guards, int... numbers) {
        Subject x = Subject.of(numbers);
        x.protect();
        return x.start(guards).is(true);
    }

    // Promise 9

    private static void startChooses() {
        Report.sentence("Promise 9", "Lets the guarded program run (true) or the source (false)");
        Subject x = Situation.guardedWorker();
        x.start(true).is(true);
        x.run(1000).is(15);
        x.pc().is(14);
        x.start(false).is(true);
        x.run(1000).is(12);
        x.pc().is(11);
    }

    private static void startClearsTheMachine() {
        Report.sentence("Promise 9", "registers, cells and PC become 0");
        for (Situation s : Situation.guardedWithRoom()) {
            for (boolean guards : BOTH) {
                Subject x = s.made().get();
                for (int cell = 0; cell < 16; cell++) {
                    x.overwrite(cell, -1).is(s.state() >= 0);
                }
                x.start(guards).is(true);
                for (int i = 0; i < 16; i++) {
                    x.memory(i).is(0);
                    x.register(i % 4).is(0);
                }
                x.pc().is(0);
                x.state().is(0);
            }
        }
    }

    private static void startForgetsTheShown() {
        Report.sentence("Promise 9", "nothing has been shown");
        for (Situation s : Situation.guardedWithRoom()) {
            for (boolean guards : BOTH) {
                Subject x = s.made().get();
                x.start(guards).is(true);
                x.shows().is(0);
                x.isShown(0, 0, 0, 0, 0, 0, 0, 0);
                x.run(1000).is(guards ? 15 : 12);
                x.shows().is(3);
                x.isShown(guards ? 11 : 9, 14, 7, 0, 0, 0, 0, 0);
            }
        }
    }

    private static void startWantsGuarded() {
        Report.sentence("Promise 9", "False if there is no guarded program (also for the source).");
        for (Situation s : Situation.all()) {
            for (boolean guards : BOTH) {
                Subject x = s.made().get();
                x.start(guards).is(s.guarded());
                x.state().is(s.guarded() ? 0 : -1);
            }
        }
        Subject x = Situation.halted(true);
        x.add(0, 0, 0).is(12);
        x.start(true).is(false);
        x.start(false).is(false);
        x.protect().is(16);
        x.start(false).is(true);
        x.allow(Situation.JUMP, Situation.NEW_TARGET).is(true);
        x.start(false).is(false);
        x.start(true).is(false);
    }

    // Promise 10

    private static void runWantsItsRange() {
        Report.sentence("Promise 10", "n steps (0 .. 1000, else none) of what runs");
        int[] wanted = {LEAST, -1000, -2, -1, 0, 1, 2, 999, 1000, 1001, 1002, 1024, 65536 + 1, MOST};
        for (boolean guards : BOTH) {
            Subject x = begun(guards, 5, 0, 0, 6, 0, 0);
            int steps = 0;
            for (int n : wanted) {
                int made = n >= 0 && n <= 1000 ? n : 0;
                x.run(n).is(made);
                steps += made;
                x.pc().is(steps % 2);
                x.shows().is((steps + 1) / 2);
                x.state().is(0);
            }
        }
    }

    private static void runEndsEarly() {
        Report.sentence("Promise 10", "or fewer if it ends");
        for (int length : new int[] {1, 2, 24}) {
            for (int n = length - 1; n <= length + 1; n++) {
                Subject x = Subject.filled(length - 1, 5, 0, 0);
                x.add(0, 0, 0).is(length - 1);
                x.protect().is(length);
                x.start(true).is(true);
                x.run(n).is(Math.min(n, length));
                x.state().is(n < length ? 0 : 1);
                x.pc().is(length - 1);
                x.run(1000).is(n < length ? 1 : 0);
                x.state().is(1);
            }
        }
        Report.sentence("Promise 10", "or fewer if it ends: around the 1000th step");
        for (int steps = 998; steps <= 1002; steps++) {
            Subject x = endsAfter(steps);
            x.run(1000).is(Math.min(steps, 1000));
            x.state().is(steps <= 1000 ? 1 : 0);
            x.run(1000).is(Math.max(0, steps - 1000));
            x.state().is(1);
        }
    }

    /** Counts down from 332, which takes 998 steps, after as many more as are asked. */
    private static Subject endsAfter(int steps) {
        int more = steps - 998;
        Subject x = Subject.filled(more, 5, 0, 0);
        x.add(2, 0, 0).is(more);
        x.add(1, 1, -1).is(more + 1);
        x.add(4, 0, 1).is(more + 2);
        x.add(7, 0, more + 5).is(more + 3);
        x.add(6, more + 2, 0).is(more + 4);
        x.add(0, 0, 0).is(more + 5);
        x.protect().is(more + 6);
        x.start(true).is(true);
        return x.overwrite(0, 332).is(true);
    }

    private static void runCountsTheLastStep() {
        Report.sentence("Promise 10", "How many were made (the one that ends it counts): halted");
        begun(true, 0, 0, 0).run(1).is(1);
        begun(false, 0, 0, 0).run(2).is(1);
        begun(false, 1, 0, 0, 0, 0, 0).run(2).is(2);
        Report.sentence("Promise 10", "How many were made (the one that ends it counts): violation");
        begun(true, 8, 0, 0).run(1).is(1);
        begun(true, 8, 0, 0).run(2).is(1);
        begun(true, 1, 0, 0, 8, 0, 0).run(2).is(2);
        Report.sentence("Promise 10", "How many were made (the one that ends it counts): astray");
        begun(false, 1, 0, -1, 8, 0, 0).run(1).is(1);
        begun(false, 1, 0, -1, 8, 0, 0).run(2).is(2);
        begun(false, 1, 0, 2, 8, 0, 0).run(3).is(2);
    }

    private static void runOfNothing() {
        Report.sentence("Promise 10", "0 if nothing runs or it has ended");
        for (Situation s : Situation.all()) {
            for (int n : new int[] {0, 1, 2, 1000}) {
                Subject x = s.made().get();
                if (s.state() == 0) {
                    x.run(Math.min(n, 2)).is(Math.min(n, 2));
                } else {
                    x.run(n).is(0);
                    x.state().is(s.state());
                }
            }
        }
    }

    private static void endingLeavesPc() {
        Report.sentence("Promise 10", "Ending leaves the PC at the instruction that ended it.");
        Subject[] ended = {Situation.halted(false), Situation.halted(true), Situation.violated(), Situation.astray()};
        int[] at = {11, 14, 9, 8};
        int[] state = {1, 1, 2, 3};
        for (int i = 0; i < ended.length; i++) {
            for (int turn = 0; turn < 3; turn++) {
                ended[i].pc().is(at[i]);
                ended[i].state().is(state[i]);
                ended[i].run(turn).is(0);
            }
        }
        Subject first = begun(true, 0, 0, 0);
        first.run(1).is(1);
        first.pc().is(0);
        Subject wide = Subject.filled(23, 1, 0, 24);
        wide.add(8, 0, 0).is(23);
        wide.protect().is(25);
        wide.start(false).is(true);
        wide.run(1000).is(24);
        wide.state().is(3);
        wide.pc().is(23);
        wide.start(true).is(true);
        wide.run(1000).is(24);
        wide.state().is(2);
        wide.pc().is(23);
    }

    // Promise 11

    private static void stateRuns() {
        Report.sentence("Promise 11", "0 it runs");
        for (boolean guards : BOTH) {
            Subject x = Situation.started(guards);
            int steps = guards ? 15 : 12;
            for (int i = 0; i < steps; i++) {
                x.state().is(0);
                x.run(1).is(1);
            }
            x.state().is(1);
        }
    }

    private static void stateHalted() {
        Report.sentence("Promise 11", "1 it halted");
        for (boolean guards : BOTH) {
            Subject x = begun(guards, 0, 0, 0);
            x.state().is(0);
            x.run(0).is(0);
            x.state().is(0);
            x.run(1).is(1);
            x.state().is(1);
            x.pc().is(0);
        }
    }

    private static void stateViolation() {
        Report.sentence("Promise 11", "2 violation");
        Subject x = begun(true, 8, 0, 0);
        x.state().is(0);
        x.run(1).is(1);
        x.state().is(2);
        x.start(false).is(true);
        x.run(1).is(1);
        x.state().is(0);
    }

    private static void stateAstray() {
        Report.sentence("Promise 11", "3 astray");
        Subject x = begun(false, 1, 0, 2, 8, 0, 0);
        x.run(1).is(1);
        x.state().is(0);
        x.run(1).is(1);
        x.state().is(3);
        x.start(true).is(true);
        x.run(2).is(2);
        x.state().is(2);
    }

    private static void stateNothingRuns() {
        Report.sentence("Promise 11", "-1 nothing runs");
        for (Situation s : Situation.all()) {
            s.made().get().state().is(s.state());
        }
        Report.sentence("Promise 11", "-1 nothing runs: what has ended still is there, until add, allow or protect");
        for (Situation s : Situation.guardedWithRoom()) {
            Subject x = s.made().get();
            x.run(-1).is(0);
            x.overwrite(16, 1).is(false);
            x.add(-1, 0, 0).is(-1);
            x.allow(-1, 0).is(false);
            x.state().is(s.state());
            Subject y = s.made().get();
            y.protect().is(15);
            y.state().is(-1);
        }
    }

    // Promises 12 and 13

    private static void overwriteWantsACell() {
        Report.sentence("Promise 12", "A cell becomes v; false if there is no such cell");
        for (boolean guards : BOTH) {
            Subject x = Situation.started(guards);
            for (int cell : new int[] {LEAST, -16, -1, 16, 17, 32, MOST}) {
                x.overwrite(cell, 7).is(false);
            }
            for (int cell = 0; cell < 16; cell++) {
                x.memory(cell).is(0);
            }
            for (int cell = 0; cell < 16; cell++) {
                x.overwrite(cell, 100 + cell).is(true);
                x.memory(cell).is(100 + cell);
                x.memory((cell + 1) % 16).is(cell == 15 ? 100 : 0);
            }
            for (int v : new int[] {LEAST, -1, 0, 1, MOST}) {
                x.overwrite(0, v).is(true);
                x.memory(0).is(v);
                x.memory(1).is(101);
            }
        }
    }

    private static void overwriteOfNothing() {
        Report.sentence("Promise 12", "false if .. nothing runs");
        for (Situation s : Situation.all()) {
            Subject x = s.made().get();
            x.overwrite(0, 6).is(s.state() >= 0);
            x.memory(0).is(s.state() >= 0 ? 6 : 0);
            x.overwrite(15, 6).is(s.state() >= 0);
            x.memory(15).is(s.state() >= 0 ? 6 : 0);
        }
        Report.sentence("Promise 12", "false if .. nothing runs: nor is the cell kept for the next start");
        Subject x = Situation.guardedWorker();
        x.overwrite(3, 6).is(false);
        x.start(true).is(true);
        x.memory(3).is(0);
    }

    private static void overwriteAfterTheEnd() {
        Report.sentence("Promise 12", "(Also after it has ended.)");
        Subject[] ended = {Situation.halted(false), Situation.halted(true), Situation.violated(), Situation.astray()};
        for (Subject x : ended) {
            int state = x.state().answer();
            int pc = x.pc().answer();
            x.overwrite(-1, 9).is(false);
            x.overwrite(16, 9).is(false);
            for (int cell = 0; cell < 16; cell++) {
                x.overwrite(cell, 50 + cell).is(true);
            }
            for (int cell = 0; cell < 16; cell++) {
                x.memory(cell).is(50 + cell);
            }
            x.register(0).is(14);
            x.state().is(state);
            x.pc().is(pc);
            x.run(10).is(0);
            x.start(true).is(true);
            x.memory(0).is(0);
        }
    }

    private static void overwriteIsRead() {
        Report.sentence("Promise 12", "A cell becomes v: what runs reads it from then on");
        Subject x = Situation.running(true);
        x.overwrite(5, 2).is(true);
        x.run(4).is(4);
        x.pc().is(3);
        x.state().is(0);
        Subject late = Situation.running(true);
        late.run(1).is(1);
        late.overwrite(5, 2).is(true);
        late.run(3).is(3);
        late.pc().is(12);
    }

    private static void memoryWantsACell() {
        Report.sentence("Promise 13", "A cell; 0 if there is no such cell");
        Subject x = Situation.started(true);
        for (int cell = 0; cell < 16; cell++) {
            x.overwrite(cell, -1 - cell).is(true);
        }
        for (int cell : new int[] {LEAST, -16, -1, 16, 17, 32, MOST}) {
            x.memory(cell).is(0);
        }
        for (int cell = 0; cell < 16; cell++) {
            x.memory(cell).is(-1 - cell);
        }
    }

    private static void memoryOfNothing() {
        Report.sentence("Promise 13", "0 if .. nothing runs");
        for (Situation s : Situation.guardedWithRoom()) {
            Subject x = s.made().get();
            x.overwrite(0, 8);
            x.overwrite(15, 9);
            x.memory(0).is(s.state() < 0 ? 0 : 8);
            x.memory(15).is(s.state() < 0 ? 0 : 9);
            x.protect().is(15);
            for (int cell = 0; cell < 16; cell++) {
                x.memory(cell).is(0);
            }
        }
    }

    private static void memoryAfterTheEnd() {
        Report.sentence("Promise 13", "A cell: also after it has ended");
        Subject[] ended = {Situation.halted(false), Situation.halted(true), Situation.violated(), Situation.astray()};
        int[] five = {9, 11, 99, 99};
        for (int i = 0; i < ended.length; i++) {
            ended[i].memory(2).is(7);
            ended[i].memory(5).is(five[i]);
            ended[i].memory(15).is(-1);
            ended[i].memory(16).is(0);
        }
    }

    // Promise 14

    private static void registerWantsOne() {
        Report.sentence("Promise 14", "A register; 0 if there is no such register");
        Subject x = begun(true, 1, 0, -1, 1, 1, LEAST, 1, 2, MOST, 1, 3, 4, 0, 0, 0);
        x.run(4).is(4);
        int[] values = {-1, LEAST, MOST, 4};
        for (int turn = 0; turn < 2; turn++) {
            for (int r : new int[] {LEAST, -4, -1, 4, 5, 8, MOST}) {
                x.register(r).is(0);
            }
            for (int r = 0; r < 4; r++) {
                x.register(r).is(values[r]);
            }
            x.run(1).is(1 - turn);
        }
    }

    private static void registerOfNothing() {
        Report.sentence("Promise 14", "0 if .. nothing runs");
        Subject x = begun(true, 1, 0, -1, 1, 1, -2, 1, 2, -3, 1, 3, -4, 0, 0, 0);
        x.run(5).is(5);
        x.register(3).is(-4);
        x.protect().is(5);
        for (int r = 0; r < 4; r++) {
            x.register(r).is(0);
        }
        for (Situation s : Situation.all()) {
            if (s.state() < 0) {
                Subject y = s.made().get();
                y.register(0).is(0);
                y.register(3).is(0);
            }
        }
    }

    // Promise 15

    private static void pcOfNothing() {
        Report.sentence("Promise 15", "The PC; -1 if nothing runs.");
        int[] pcs = {-1, -1, -1, -1, 0, 7, 8, 11, 14, 9, 8, 16, -1, 1};
        int i = 0;
        for (Situation s : Situation.all()) {
            s.made().get().pc().is(pcs[i]);
            i++;
        }
        for (Situation s : Situation.guardedWithRoom()) {
            s.made().get().add(0, 0, 0).is(12).pc().is(-1);
            s.made().get().allow(Situation.JUMP, Situation.NEW_TARGET).is(true).pc().is(-1);
            s.made().get().protect().is(15).pc().is(-1);
            s.made().get().start(true).is(true).pc().is(0);
        }
    }

    // Promises 16 and 17

    private static Subject counting() {
        return begun(true, 1, 1, 3, 4, 0, 1, 5, 0, 0, 6, 1, 0).run(1).is(1);
    }

    private static void showsCounts() {
        Report.sentence("Promise 16", "How often something was shown since the start");
        Subject x = counting();
        for (int times = 0; times <= 20; times++) {
            x.shows().is(times);
            x.run(1).is(1);
            x.shows().is(times);
            x.run(1).is(1);
            x.shows().is(times + 1);
            x.run(1).is(1);
        }
        Subject many = begun(false, 5, 0, 0, 6, 0, 0);
        for (int i = 1; i <= 200; i++) {
            many.run(1000).is(1000);
            many.shows().is(500 * i);
        }
        many.start(true).is(true);
        many.shows().is(0);
        many.run(1).is(1);
        many.shows().is(1);
        Subject ended = Situation.halted(true);
        ended.shows().is(3);
    }

    private static void showsOfNothing() {
        Report.sentence("Promise 16", "0 if nothing runs");
        int[] shows = {0, 0, 0, 0, 0, 2, 2, 3, 3, 2, 2, 4, 0, 0};
        int i = 0;
        for (Situation s : Situation.all()) {
            Subject x = s.made().get();
            x.shows().is(shows[i]);
            x.protect();
            x.shows().is(0);
            i++;
        }
    }

    private static void shownWantsItsRange() {
        Report.sentence("Promise 17", "the k-th counted from the latest (0); 0 if k is not 0 .. 7");
        Subject x = counting();
        x.run(3 * 20).is(60);
        for (int k : new int[] {LEAST, -8, -1, 8, 9, 15, 16, 19, 20, MOST}) {
            x.shown(k).is(0);
        }
        for (int k = 0; k <= 7; k++) {
            x.shown(k).is(3 * (20 - k));
        }
    }

    private static void shownNotSoOften() {
        Report.sentence("Promise 17", "0 if .. it was not shown so often");
        Subject x = counting();
        for (int times = 0; times <= 18; times++) {
            for (int k = -1; k <= 9; k++) {
                boolean there = k >= 0 && k <= 7 && k < times;
                x.shown(k).is(there ? 3 * (times - k) : 0);
            }
            x.run(3).is(3);
        }
        Report.sentence("Promise 17", "it was not shown so often: since the start");
        for (int again = 0; again <= 9; again++) {
            Subject y = counting();
            y.run(3 * 9).is(27);
            y.start(false).is(true);
            y.run(1 + 3 * again).is(1 + 3 * again);
            for (int k = 0; k <= 8; k++) {
                y.shown(k).is(k <= 7 && k < again ? 3 * (again - k) : 0);
            }
        }
    }

    private static void shownOfNothing() {
        Report.sentence("Promise 17", "0 if .. nothing runs");
        Subject x = counting();
        x.run(3 * 9).is(27);
        x.shown(7).is(6);
        x.protect().is(4);
        for (int k = 0; k <= 7; k++) {
            x.shown(k).is(0);
        }
        new Subject().shown(0).is(0);
        Report.sentence("Promise 17", "What was shown: also after it has ended");
        Situation.halted(false).isShown(9, 14, 7, 0);
        Situation.halted(true).isShown(11, 14, 7, 0);
        Situation.violated().isShown(14, 7, 0);
        Situation.astray().isShown(14, 7, 0);
    }

    private static void testPromises9To11() {
        startChooses();
        startClearsTheMachine();
        startForgetsTheShown();
        startWantsGuarded();
        runWantsItsRange();
        runEndsEarly();
        runCountsTheLastStep();
        runOfNothing();
        endingLeavesPc();
        stateRuns();
        stateHalted();
        stateViolation();
        stateAstray();
        stateNothingRuns();
    }

    private static void testPromises12To17() {
        overwriteWantsACell();
        overwriteOfNothing();
        overwriteAfterTheEnd();
        overwriteIsRead();
        memoryWantsACell();
        memoryOfNothing();
        memoryAfterTheEnd();
        registerWantsOne();
        registerOfNothing();
        pcOfNothing();
        showsCounts();
        showsOfNothing();
        shownWantsItsRange();
        shownNotSoOften();
        shownOfNothing();
    }

    public static void main(String[] args) {
        testPromises9To11();
        testPromises12To17();
        Report.end();
    }
}
