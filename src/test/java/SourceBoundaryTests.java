/** Each sentence of promises 1 to 8 that names a boundary case, at the boundary and on both sides of it. */
public final class SourceBoundaryTests {
    private static final int LEAST = Subject.LEAST;
    private static final int MOST = Subject.MOST;
    private static final int[] OPS_WITH_REGISTER_A = {1, 2, 3, 4, 5, 7, 8, 9};

    // Promise 1

    private static void newObjectIsEmpty() {
        Report.sentence("Promise 1", "An empty source");
        Subject x = new Subject();
        for (int field = 0; field < 3; field++) {
            x.source(0, field).is(-9);
        }
        x.label(0).is(-1);
        x.protect().is(-1);
        x.add(0, 0, 0).is(0);
        new Subject().add(9, 3, 23).is(0);
    }

    private static void newObjectHasNoEdges() {
        Report.sentence("Promise 1", "no edges");
        Subject x = Subject.filled(24, 8, 0, 0);
        for (int i = 0; i < 24; i++) {
            x.label(i).is(0);
        }
        for (int i = 0; i < 48; i++) {
            x.allow(i % 24, 23 - i / 24).is(true);
        }
    }

    private static void newObjectIsNotGuarded() {
        Report.sentence("Promise 1", "not guarded");
        new Subject().isNotGuarded();
        Subject.of(0, 0, 0).isNotGuarded();
    }

    private static void newObjectIsNotRunning() {
        Report.sentence("Promise 1", "not running");
        new Subject().isIdle();
        Subject.of(0, 0, 0).isIdle();
    }

    // Promise 2

    private static void addAnswersTheAddress() {
        Report.sentence("Promise 2", "Appends an instruction to the source: its address.");
        Subject x = new Subject();
        for (int i = 0; i < 24; i++) {
            x.source(i, 0).is(-9);
            x.add(1, i % 4, 100 + i).is(i);
            x.source(i, 0).is(1);
            x.source(i, 1).is(i % 4);
            x.source(i, 2).is(100 + i);
        }
        x.source(0, 2).is(100);
    }

    private static void refusesAdd(int op, int a, int b) {
        Subject x = new Subject();
        x.add(op, a, b).is(-1);
        x.source(0, 0).is(-9);
        x.add(0, 0, 0).is(0);
    }

    private static void takesAdd(int op, int a, int b) {
        Subject.of(op, a, b).isSource(op, a, b);
    }

    private static void addWantsAnOp() {
        Report.sentence("Promise 2", "-1 if op is not 0 .. 9");
        for (int op : new int[] {LEAST, -2, -1, 10, 11, 12, 256, MOST}) {
            refusesAdd(op, 0, 0);
        }
        for (int op = 0; op <= 9; op++) {
            takesAdd(op, 0, 0);
        }
    }

    private static void addWantsRegisterA() {
        Report.sentence("Promise 2", "a register (a in ops 1 to 5 and 7 to 9 ..) is not 0 .. 3");
        for (int op : OPS_WITH_REGISTER_A) {
            for (int a : new int[] {LEAST, -1, 4, 5, MOST}) {
                refusesAdd(op, a, 0);
            }
            for (int a = 0; a <= 3; a++) {
                takesAdd(op, a, 0);
            }
        }
    }

    private static void addWantsRegisterB() {
        Report.sentence("Promise 2", "a register (.. b in op 4) is not 0 .. 3");
        for (int b : new int[] {LEAST, -1, 4, 5, MOST}) {
            refusesAdd(4, 0, b);
            refusesAdd(4, 3, b);
        }
        for (int b = 0; b <= 3; b++) {
            takesAdd(4, 0, b);
            takesAdd(4, 3, b);
        }
    }

    private static void addWantsACell() {
        Report.sentence("Promise 2", "a cell (b in ops 2 and 3) is not 0 .. 15");
        for (int op = 2; op <= 3; op++) {
            for (int b : new int[] {LEAST, -1, 16, 17, MOST}) {
                refusesAdd(op, 0, b);
            }
            for (int b = 0; b <= 15; b++) {
                takesAdd(op, 3, b);
            }
        }
    }

    private static void addWantsAnAddress() {
        Report.sentence("Promise 2", "an address (a in op 6, b in ops 7 and 9) is not 0 .. 23");
        for (int address : new int[] {LEAST, -1, 24, 25, MOST}) {
            refusesAdd(6, address, 0);
            refusesAdd(7, 0, address);
            refusesAdd(9, 0, address);
        }
        for (int address = 0; address <= 23; address++) {
            takesAdd(6, address, 0);
            takesAdd(7, 3, address);
            takesAdd(9, 3, address);
        }
    }

    private static void addIsFull() {
        Report.sentence("Promise 2", "else -2 if there are 24");
        for (int count = 22; count <= 24; count++) {
            for (int op = 0; op <= 9; op++) {
                Subject x = Subject.filled(count, 5, 1, 7);
                x.add(op, 0, 0).is(count < 24 ? count : -2);
                x.source(23, 0).is(count == 24 ? 5 : count == 23 ? op : -9);
                x.source(24, 0).is(-9);
            }
        }
    }

    private static void addWrongWhenFull() {
        Report.sentence("Promise 2", "-1 if ..; else -2: a wrong one is -1 also where there are 24");
        Subject x = Subject.filled(24, 0, 0, 0);
        int[] wrong = {
            -1, 0, 0, 10, 0, 0, 1, -1, 0, 1, 4, 0, 2, 4, 0, 2, 0, 16, 3, 0, -1, 4, 0, 4, 5, 4, 0, 6, 24, 0, 6, -1, 0,
            7, 4, 0, 7, 0, 24, 8, 4, 0, 9, -1, 0, 9, 0, 24};
        for (int i = 0; i < wrong.length; i += 3) {
            x.add(wrong[i], wrong[i + 1], wrong[i + 2]).is(-1);
        }
        x.add(0, 0, 0).is(-2);
    }

    private static void addCountsNoRefused() {
        Report.sentence("Promise 2", "else -2 if there are 24: refused ones are not there");
        Subject x = new Subject();
        for (int i = 0; i < 24; i++) {
            x.add(10, 0, 0).is(-1);
            x.add(6, 24, 0).is(-1);
            x.add(6, i, i).is(i);
        }
        x.add(0, 0, 0).is(-2);
        x.add(0, 0, 0).is(-2);
        x.source(23, 1).is(23);
    }

    private static void addTakesAnyUnusedNumber() {
        Report.sentence("Promise 2", "The numbers that an op does not use may be any.");
        for (int any : new int[] {LEAST, -1, 0, 3, 4, 15, 16, 23, 24, MOST}) {
            takesAdd(0, any, any);
            takesAdd(1, 3, any);
            takesAdd(5, 3, any);
            takesAdd(6, 23, any);
            takesAdd(8, 3, any);
        }
    }

    private static void addEndsGuarding() {
        Report.sentence("Promise 2", "If it was done, there is no guarded program any more");
        for (Situation s : Situation.guardedWithRoom()) {
            Subject x = s.made().get();
            x.add(0, 0, 0).is(s.length());
            x.isNotGuarded();
            x.protect().is(16);
        }
        Report.sentence("Promise 2", "If it was done, .. nothing runs");
        for (Situation s : Situation.guardedWithRoom()) {
            Subject x = s.made().get();
            x.state().is(s.state());
            x.add(0, 0, 0).is(s.length());
            x.isIdle();
        }
        Report.sentence("Promise 2", "If it was done: a refused add ends nothing");
        for (Situation s : Situation.guardedWithRoom()) {
            Subject x = s.made().get();
            x.add(10, 0, 0).is(-1);
            x.place(11).is(14);
            x.state().is(s.state());
        }
    }

    private static void addKeepsEdges() {
        Report.sentence("Promise 2", "Appends an instruction: the edges stay");
        Subject x = Situation.worker();
        x.add(0, 0, 0).is(12);
        x.label(9).is(3);
        x.label(2).is(3);
        x.label(12).is(0);
        x.allow(8, 9).is(false);
        x.allow(8, 12).is(true);
        x.label(12).is(3);
    }

    // Promise 3

    private static void allowWantsAJump() {
        Report.sentence("Promise 3", "false if jump is not the address of an op 8");
        Subject x = new Subject();
        for (int op = 0; op <= 9; op++) {
            x.add(op, 0, 0).is(op);
        }
        for (int jump : new int[] {LEAST, -8, -1, 0, 1, 2, 3, 4, 5, 6, 7, 9, 10, 11, 24, MOST}) {
            x.allow(jump, 0).is(false);
            x.label(0).is(0);
        }
        x.allow(8, 0).is(true);
        for (int at : new int[] {0, 1, 22, 23}) {
            Subject y = Subject.filled(at, 0, 8, 8);
            y.allow(at, 0).is(false);
            y.add(8, 0, 0).is(at);
            y.allow(at - 1, at).is(false);
            y.allow(at + 1, at).is(false);
            y.allow(at, at).is(true);
        }
    }

    private static void allowWantsATarget() {
        Report.sentence("Promise 3", "target not an address of the source");
        for (int length : new int[] {1, 2, 23, 24}) {
            Subject x = Subject.filled(length, 8, 0, 0);
            for (int target : new int[] {LEAST, -32, -1, length, length + 1, 24, 32, 32 + length - 1, MOST}) {
                x.allow(0, target).is(false);
                x.allow(length - 1, target).is(false);
            }
            x.label(0).is(0);
            x.label(length - 1).is(0);
            x.allow(0, length - 1).is(true);
            x.label(length - 1).is(length);
            x.allow(length - 1, 0).is(length > 1);
            x.label(0).is(1);
        }
        Subject y = new Subject();
        y.allow(0, 0).is(false);
    }

    private static void allowWantsANewPair() {
        Report.sentence("Promise 3", "the pair is there already");
        Subject x = Subject.filled(24, 8, 0, 0);
        int[][] pairs = {{0, 0}, {0, 23}, {23, 0}, {23, 23}, {11, 12}, {12, 11}};
        for (int[] p : pairs) {
            x.allow(p[0], p[1]).is(true);
            x.allow(p[0], p[1]).is(false);
        }
        for (int[] p : pairs) {
            x.allow(p[0], p[1]).is(false);
        }
        x.allow(11, 11).is(true);
        x.allow(12, 12).is(true);
        x.protect().is(24 + 24 + 4);
        x.allow(12, 12).is(false);
    }

    private static void allowIsFull() {
        Report.sentence("Promise 3", "there are 48");
        Subject x = Subject.filled(24, 8, 0, 0);
        for (int i = 0; i < 47; i++) {
            x.allow(i % 24, i / 24).is(true);
        }
        x.label(1).is(1);
        x.label(2).is(0);
        x.allow(23, 2).is(true);
        x.label(2).is(1);
        x.allow(23, 1).is(false);
        x.allow(0, 2).is(false);
        x.allow(0, 23).is(false);
        x.label(23).is(0);
        x.allow(23, 2).is(false);
        x.protect().is(51);
        x.allow(23, 1).is(false);
        x.place(23).is(49);
    }

    private static void allowCountsNoRefused() {
        Report.sentence("Promise 3", "there are 48: refused ones are not there");
        Subject x = Subject.of(8, 0, 0, 8, 0, 0);
        for (int i = 2; i < 24; i++) {
            x.add(0, 0, 0).is(i);
        }
        for (int i = 0; i < 48; i++) {
            x.allow(i / 24, i % 24).is(true);
            x.allow(i / 24, i % 24).is(false);
            x.allow(2, i % 24).is(false);
            x.allow(i / 24, 24).is(false);
        }
        x.label(23).is(1);
    }

    private static void allowCountsAllSinceTheFirst() {
        Report.sentence("Promise 3", "there are 48: those before an add, a protect or a start count too");
        Subject x = Subject.of(8, 0, 0, 8, 0, 0, 8, 0, 0);
        for (int target = 0; target < 24; target++) {
            if (target > 2) {
                x.add(0, 0, 0).is(target);
            }
            x.allow(0, target).is(true);
            x.allow(2, 24).is(false);
            x.allow(1, target).is(true);
            x.protect();
            x.start(true).is(true);
        }
        for (int target = 0; target < 24; target++) {
            x.allow(2, target).is(false);
        }
        x.state().is(0);
    }

    private static void allowEndsGuarding() {
        Report.sentence("Promise 3", "If it was done, there is no guarded program any more");
        for (Situation s : Situation.guardedWithRoom()) {
            Subject x = s.made().get();
            x.allow(Situation.JUMP, Situation.NEW_TARGET).is(true);
            x.isNotGuarded();
            x.protect().is(16);
        }
        Report.sentence("Promise 3", "If it was done, .. nothing runs");
        for (Situation s : Situation.guardedWithRoom()) {
            Subject x = s.made().get();
            x.state().is(s.state());
            x.allow(Situation.JUMP, Situation.NEW_TARGET).is(true);
            x.isIdle();
        }
        Report.sentence("Promise 3", "If it was done: a refused allow ends nothing");
        for (Situation s : Situation.guardedWithRoom()) {
            Subject x = s.made().get();
            x.allow(Situation.JUMP, Situation.TARGET).is(false);
            x.allow(Situation.JUMP, s.length()).is(false);
            x.allow(0, Situation.NEW_TARGET).is(false);
            x.place(11).is(14);
            x.state().is(s.state());
        }
    }

    // Promise 4

    private static void protectCounts() {
        Report.sentence("Promise 4", "Makes the guarded program: how many instructions it has.");
        Subject.of(0, 0, 0).protect().is(1);
        Subject.of(8, 0, 0).protect().is(2);
        Subject.filled(23, 0, 0, 0).protect().is(23);
        Subject.filled(24, 0, 0, 0).protect().is(24);
        Subject.filled(24, 8, 0, 0).protect().is(48);
        Subject x = Subject.filled(24, 8, 0, 0);
        for (int i = 0; i < 24; i++) {
            x.allow(i, i).is(true);
            x.protect().is(49 + i);
            x.guarded(48 + i, 0).is(8);
            x.guarded(49 + i, 0).is(-9);
        }
    }

    private static void protectWantsASource() {
        Report.sentence("Promise 4", "-1 if the source is empty");
        Subject x = new Subject();
        x.protect().is(-1);
        x.isNotGuarded();
        x.add(10, 0, 0).is(-1);
        x.protect().is(-1);
        x.add(0, 0, 0).is(0);
        x.protect().is(1);
    }

    private static void protectWantsALastOp() {
        Report.sentence("Promise 4", "its last op is not 0, 6 or 8");
        int[] sizes = {1, -1, -1, -1, -1, -1, 1, -1, 2, -1};
        for (int op = 0; op <= 9; op++) {
            Subject.of(op, 0, 0).protect().is(sizes[op]);
            Subject x = Subject.filled(23, 0, 0, 0);
            x.add(op, 0, 0).is(23);
            x.protect().is(sizes[op] < 0 ? -1 : 23 + sizes[op]);
            Subject first = Subject.of(op, 0, 0, 0, 0, 0);
            first.protect().is(op == 8 ? 3 : 2);
        }
    }

    private static void protectWantsItsOwnAddresses() {
        Report.sentence("Promise 4", "an address in it (a of op 6, b of ops 7 and 9) is not one of its own");
        for (int length = 2; length <= 24; length++) {
            for (int address = length - 2; address <= length + 1 && address < 24; address++) {
                int want = address < length ? length : -1;
                for (int at : new int[] {0, length - 2}) {
                    sourceWith(length, at, 6, address, 0).protect().is(want);
                    sourceWith(length, at, 7, 0, address).protect().is(want);
                    sourceWith(length, at, 9, 0, address).protect().is(want);
                }
                sourceWith(length, length - 1, 6, address, 0).protect().is(want);
            }
        }
        Subject.of(6, 0, 0).protect().is(1);
        Subject.of(6, 1, 0).protect().is(-1);
    }

    /** Halts, but for one instruction. */
    private static Subject sourceWith(int length, int at, int op, int a, int b) {
        Subject x = Subject.filled(at, 0, 0, 0);
        x.add(op, a, b).is(at);
        for (int i = at + 1; i < length; i++) {
            x.add(0, 0, 0).is(i);
        }
        return x;
    }

    private static void protectLooksAtAddressesAlone() {
        Report.sentence("Promise 4", "an address in it (a of op 6, b of ops 7 and 9): no other number");
        for (int any : new int[] {LEAST, -1, 2, 24, MOST}) {
            Subject.of(0, any, any, 0, 0, 0).protect().is(2);
            Subject.of(1, 3, any, 0, 0, 0).protect().is(2);
            Subject.of(5, 3, any, 0, 0, 0).protect().is(2);
            Subject.of(6, 1, any, 0, 0, 0).protect().is(2);
            Subject.of(8, 3, any, 0, 0, 0).protect().is(3);
        }
        Subject.of(2, 3, 15, 3, 3, 15, 4, 3, 3, 7, 3, 0, 9, 3, 0, 0, 0, 0).protect().is(6);
    }

    private static void protectRefusedLeavesNone() {
        Report.sentence("Promise 4", "then there is no guarded program");
        int[][] sources = {{}, {5, 0, 0}, {6, 1, 0}, {7, 0, 2, 0, 0, 0}, {9, 0, 23, 0, 0, 0}, {8, 0, 0, 1, 0, 0}};
        for (int[] source : sources) {
            Subject x = Subject.of(source);
            x.protect().is(-1);
            x.isNotGuarded();
            x.isSource(source);
        }
        Report.sentence("Promise 4", "then there is no guarded program: nor the one before");
        Subject x = Situation.guardedWorker();
        x.add(5, 0, 0).is(12);
        x.protect().is(-1);
        x.isNotGuarded();
        x.add(0, 0, 0).is(13);
        x.protect().is(17);
    }

    private static void protectEndsRunning() {
        Report.sentence("Promise 4", "In both cases nothing runs afterwards: made");
        for (Situation s : Situation.guardedWithRoom()) {
            Subject x = s.made().get();
            x.state().is(s.state());
            x.protect().is(15);
            x.isIdle();
            x.place(11).is(14);
            x.start(true).is(true);
            x.pc().is(0);
        }
        Report.sentence("Promise 4", "In both cases nothing runs afterwards: -1");
        for (Situation s : Situation.guardedWithRoom()) {
            Subject x = s.made().get();
            x.add(5, 0, 0).is(12);
            x.protect().is(-1);
            x.isIdle();
        }
    }

    // Promise 5

    private static void sourceAnswersEachField() {
        Report.sentence("Promise 5", "Of instruction i of the source the op (field 0), a (1) or b (2)");
        Subject x = Subject.of(1, 3, LEAST, 0, MOST, -9, 7, 2, 23);
        x.isSource(1, 3, LEAST, 0, MOST, -9, 7, 2, 23);
    }

    private static void sourceHasNone() {
        Report.sentence("Promise 5", "-9 if there is none");
        for (int length : new int[] {0, 1, 23, 24}) {
            Subject x = Subject.filled(length, 5, 2, 7);
            for (int i : new int[] {LEAST, -1, length, length + 1, 24, 25, MOST}) {
                for (int field = 0; field < 3; field++) {
                    x.source(i, field).is(-9);
                }
            }
            for (int field : new int[] {LEAST, -1, 3, 4, MOST}) {
                x.source(0, field).is(-9);
                x.source(length - 1, field).is(-9);
                x.source(length, field).is(-9);
            }
            x.source(length - 1, 0).is(length > 0 ? 5 : -9);
            x.source(length - 1, 2).is(length > 0 ? 7 : -9);
            x.source(0, 1).is(length > 0 ? 2 : -9);
        }
    }

    // Promise 6

    private static void guardedHasNone() {
        Report.sentence("Promise 6", "The same of the guarded program; -9 if there is none.");
        for (int length : new int[] {1, 2, 23, 24}) {
            Subject x = Subject.filled(length, 8, 2, 7);
            for (int i = 0; i < length; i++) {
                x.allow(i, i).is(true);
            }
            int size = 3 * length;
            x.protect().is(size);
            for (int i : new int[] {LEAST, -1, size, size + 1, 72, 73, MOST}) {
                for (int field = 0; field < 3; field++) {
                    x.guarded(i, field).is(-9);
                }
            }
            for (int field : new int[] {LEAST, -1, 3, 4, MOST}) {
                x.guarded(0, field).is(-9);
                x.guarded(size - 1, field).is(-9);
            }
            x.guarded(0, 0).is(10);
            x.guarded(0, 1).is(1);
            x.guarded(0, 2).is(0);
            x.guarded(size - 2, 0).is(11);
            x.guarded(size - 2, 1).is(2);
            x.guarded(size - 2, 2).is(length);
            x.guarded(size - 1, 0).is(8);
            x.guarded(size - 1, 2).is(7);
        }
    }

    private static void guardedWithoutProgram() {
        Report.sentence("Promise 6", "-9 if there is none: no guarded program");
        Subject x = Subject.of(8, 1, 5, 0, 0, 0);
        x.isNotGuarded();
        x.protect().is(3);
        x.isGuarded(11, 1, 0, 8, 1, 5, 0, 0, 0);
        x.allow(0, 1).is(true);
        x.isNotGuarded();
        x.protect().is(4);
        x.isGuarded(11, 1, 2, 8, 1, 5, 10, 2, 0, 0, 0, 0);
    }

    // Promise 7

    private static void placeHasNoSuchInstruction() {
        Report.sentence("Promise 7", "-1 if there is no such instruction");
        for (int length : new int[] {1, 2, 23, 24}) {
            Subject x = Subject.filled(length, 8, 0, 0);
            x.allow(0, 0).is(true);
            x.protect().is(2 * length + 1);
            for (int i : new int[] {LEAST, -1, length, length + 1, 2 * length, 24, 25, MOST}) {
                x.place(i).is(i > 0 && i < length ? 2 * i + 1 : -1);
            }
            x.place(0).is(0);
            x.place(length - 1).is(length == 1 ? 0 : 2 * length - 1);
        }
    }

    private static void placeWithoutGuarded() {
        Report.sentence("Promise 7", "-1 if .. no guarded program");
        for (Situation s : Situation.all()) {
            Subject x = s.made().get();
            x.place(0).is(s.guarded() ? 0 : -1);
            for (int i = 1; i < s.length() && !s.guarded(); i++) {
                x.place(i).is(-1);
            }
        }
    }

    // Promise 8

    private static void labelOfNoTarget() {
        Report.sentence("Promise 8", "0 if it is no target");
        Subject x = Subject.filled(24, 8, 0, 0);
        x.label(0).is(0);
        x.label(23).is(0);
        x.allow(0, 23).is(true);
        x.label(0).is(0);
        x.label(22).is(0);
        x.label(23).is(24);
        x.allow(23, 0).is(true);
        x.label(0).is(1);
        x.label(1).is(0);
        x.protect().is(50);
        x.label(1).is(0);
        x.label(23).is(24);
    }

    private static void labelHasNoSuchInstruction() {
        Report.sentence("Promise 8", "-1 if there is no such instruction");
        for (int length : new int[] {0, 1, 23, 24}) {
            Subject x = Subject.filled(length, 8, 0, 0);
            for (int i : new int[] {LEAST, -1, length, length + 1, 24, 25, 32, MOST}) {
                x.label(i).is(i >= 0 && i < length ? 0 : -1);
            }
            x.label(length - 1).is(length == 0 ? -1 : 0);
        }
    }

    private static void labelAsksForNoGuarded() {
        Report.sentence("Promise 8", "The number of the class of instruction i of the source: guarded or not");
        Subject x = Situation.worker();
        x.label(9).is(3);
        x.protect().is(15);
        x.label(9).is(3);
        x.start(true).is(true);
        x.label(9).is(3);
        x.add(5, 0, 0).is(12);
        x.protect().is(-1);
        x.label(9).is(3);
    }

    private static void testPromises1And2() {
        newObjectIsEmpty();
        newObjectHasNoEdges();
        newObjectIsNotGuarded();
        newObjectIsNotRunning();
        addAnswersTheAddress();
        addWantsAnOp();
        addWantsRegisterA();
        addWantsRegisterB();
        addWantsACell();
        addWantsAnAddress();
        addIsFull();
        addWrongWhenFull();
        addCountsNoRefused();
        addTakesAnyUnusedNumber();
        addEndsGuarding();
        addKeepsEdges();
    }

    private static void testPromises3And4() {
        allowWantsAJump();
        allowWantsATarget();
        allowWantsANewPair();
        allowIsFull();
        allowCountsNoRefused();
        allowCountsAllSinceTheFirst();
        allowEndsGuarding();
        protectCounts();
        protectWantsASource();
        protectWantsALastOp();
        protectWantsItsOwnAddresses();
        protectLooksAtAddressesAlone();
        protectRefusedLeavesNone();
        protectEndsRunning();
    }

    private static void testPromises5To8() {
        sourceAnswersEachField();
        sourceHasNone();
        guardedHasNone();
        guardedWithoutProgram();
        placeHasNoSuchInstruction();
        placeWithoutGuarded();
        labelOfNoTarget();
        labelHasNoSuchInstruction();
        labelAsksForNoGuarded();
    }

    public static void main(String[] args) {
        testPromises1And2();
        testPromises3And4();
        testPromises5To8();
        Report.end();
    }
}
