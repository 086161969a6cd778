/** Each sentence of the document's terms that names a boundary case, at the boundary and on both sides of it. */
public final class TermsBoundaryTests {
    private static final String WHERE = "Terms";
    private static final int LEAST = Subject.LEAST;
    private static final int MOST = Subject.MOST;

    private static void lastsFor512Calls() {
        Report.sentence("What it is", "An object is used for at most 512 calls after it has been made");
        Subject x = Subject.of(5, 0, 0, 4, 0, 1, 6, 0, 0, 0, 0, 0);
        x.protect().is(4);
        x.start(true).is(true);
        int steps = 0;
        while (x.calls() < 511) {
            x.run(1000).is(1000);
            steps += 1000;
        }
        x.shows().is((steps + 2) / 3);
        Report.sentence("What it is", "at most 512 calls: refused ones and questions count too");
        Subject y = new Subject();
        while (y.calls() < 510) {
            y.add(-1, 0, 0).is(-1);
            y.source(0, 0).is(-9);
        }
        y.add(0, 0, 0).is(0);
        y.protect().is(1);
    }

    private static void registersAreFour() {
        Report.sentence(WHERE, "registers 0 .. 3");
        Subject x = Subject.of(1, 0, 10, 1, 1, 11, 1, 2, 12, 1, 3, 13, 0, 0, 0);
        x.protect().is(5);
        x.start(false).is(true);
        for (int set = 0; set <= 4; set++) {
            for (int r = -1; r <= 4; r++) {
                x.register(r).is(r >= 0 && r < set ? 10 + r : 0);
            }
            x.run(1).is(1);
        }
    }

    private static void cellsAreSixteen() {
        Report.sentence(WHERE, "memory CELLS 0 .. 15");
        for (int cell = 0; cell <= 15; cell++) {
            Subject x = Subject.of(1, 3, 7, 3, 3, cell, 2, 1, cell, 0, 0, 0);
            x.protect().is(4);
            x.start(true).is(true);
            x.run(9).is(4);
            for (int other = -1; other <= 16; other++) {
                x.memory(other).is(other == cell ? 7 : 0);
            }
            x.register(1).is(7);
        }
    }

    private static void sumWraps() {
        Report.sentence(WHERE, "register a becomes register a + register b (wrapping)");
        int[][] sums = {
            {MOST, 0, MOST}, {MOST - 1, 1, MOST}, {MOST, 1, LEAST}, {MOST, 2, LEAST + 1}, {MOST, MOST, -2},
            {LEAST, 0, LEAST}, {LEAST + 1, -1, LEAST}, {LEAST, -1, MOST}, {LEAST, -2, MOST - 1}, {LEAST, LEAST, 0},
            {LEAST, MOST, -1}, {1, MOST, LEAST}, {-1, LEAST, MOST}, {-1, 1, 0}, {2, 3, 5}};
        Subject x = Subject.of(2, 0, 0, 2, 1, 1, 4, 0, 1, 5, 0, 0, 0, 0, 0);
        x.protect().is(5);
        for (int i = 0; i < sums.length; i++) {
            x.start(i % 2 == 0).is(true);
            x.overwrite(0, sums[i][0]).is(true);
            x.overwrite(1, sums[i][1]).is(true);
            x.run(9).is(5);
            x.register(0).is(sums[i][2]);
            x.register(1).is(sums[i][1]);
            x.shown(0).is(sums[i][2]);
        }
        Report.sentence(WHERE, "register a + register b (wrapping), of one register");
        int[][] doubles = {
            {1 << 30, LEAST}, {(1 << 30) - 1, MOST - 1}, {-(1 << 30), LEAST}, {-(1 << 30) - 1, MOST - 1}, {LEAST, 0}};
        Subject y = Subject.of(2, 2, 0, 4, 2, 2, 0, 0, 0);
        y.protect().is(3);
        for (int[] d : doubles) {
            y.start(true).is(true);
            y.overwrite(0, d[0]).is(true);
            y.run(9).is(3);
            y.register(2).is(d[1]);
        }
    }

    private static void jumpsIfZero() {
        Report.sentence(WHERE, "if register a is 0 on at address b");
        int[] values = {LEAST, -1, 0, 1, MOST};
        for (int r = 0; r < 4; r++) {
            Subject x = Subject.of(2, r, 0, 7, r, 3, 0, 0, 0, 0, 0, 0);
            x.protect().is(4);
            for (int v : values) {
                x.start(true).is(true);
                x.overwrite(0, v).is(true);
                x.run(2).is(2);
                x.pc().is(v == 0 ? 3 : 2);
            }
        }
    }

    private static void goesOnAtAddress() {
        Report.sentence(WHERE, "on at address a");
        int[] addresses = {0, 1, 22, 23};
        for (int address : addresses) {
            Subject x = Subject.of(6, address, 0);
            for (int i = 1; i < 24; i++) {
                x.add(0, 0, 0).is(i);
            }
            x.protect().is(24);
            x.start(false).is(true);
            x.run(1).is(1);
            x.pc().is(address);
            x.run(5).is(address == 0 ? 5 : 1);
        }
    }

    private static void goesAstray() {
        Report.sentence(WHERE, "if the program has no such address it goes ASTRAY");
        for (int length : new int[] {2, 3, 23, 24}) {
            Subject x = Subject.of(2, 2, 7, 8, 2, 0);
            for (int i = 2; i < length; i++) {
                x.add(0, 0, 0).is(i);
            }
            x.protect().is(length + 1);
            for (int to : new int[] {LEAST, -1, 0, length - 1, length, length + 1, 72, MOST}) {
                boolean there = to >= 0 && to < length;
                x.start(false).is(true);
                x.overwrite(7, to).is(true);
                x.run(2).is(2);
                x.state().is(there ? 0 : 3);
                x.pc().is(there ? to : 1);
            }
        }
    }

    private static void guardWantsLabelOfItsNumber() {
        Report.sentence(WHERE, "an instruction of the program that is a label with number b, else a VIOLATION");
        Subject x = Subject.of(2, 0, 0, 8, 0, 0, 0, 0, 0, 8, 1, 0, 0, 0, 0);
        x.allow(1, 0).is(true);
        x.allow(1, 4).is(true);
        x.allow(3, 2).is(true);
        x.protect().is(10);
        x.isGuarded(10, 1, 0, 2, 0, 0, 11, 0, 1, 8, 0, 0, 10, 3, 0, 0, 0, 0, 11, 1, 3, 8, 1, 0, 10, 1, 0, 0, 0, 0);
        for (int to : new int[] {LEAST, -1, 0, 1, 2, 3, 4, 5, 6, 7, 8, 9, 10, 11, 24, 72, MOST}) {
            boolean fine = to == 0 || to == 8;
            x.start(true).is(true);
            x.overwrite(0, to).is(true);
            x.run(3).is(3);
            x.state().is(fine ? 0 : 2);
            x.pc().is(fine ? 3 : 2);
            x.run(1).is(fine ? 1 : 0);
            x.pc().is(fine ? to : 2);
        }
    }

    private static void guardKnowsLongPrograms() {
        Report.sentence(WHERE, "an instruction of the program that is a label: also far behind address 23");
        Subject x = Subject.of(2, 0, 0);
        for (int i = 1; i < 24; i++) {
            x.add(8, 0, 0).is(i);
            x.allow(i, i).is(true);
        }
        x.allow(1, 0).is(true);
        x.allow(1, 23).is(true);
        x.protect().is(71);
        for (int to : new int[] {0, 1, 2, 23, 24, 65, 67, 68, 69, 70, 71, 72, 73}) {
            boolean fine = to == 0 || to == 2 || to == 68;
            x.start(true).is(true);
            x.overwrite(0, to).is(true);
            x.run(5).is(fine ? 5 : 4);
            x.state().is(fine ? 0 : 2);
            x.pc().is(fine ? to : 3);
            x.run(1000).is(fine ? 1000 : 0);
            x.state().is(fine ? 0 : 2);
        }
    }

    private static void guardOfNoTargetNeverHolds() {
        Report.sentence(WHERE, "a guard with .. the number of its targets' class (0 if it has no target)");
        Subject x = Subject.of(2, 3, 0, 8, 3, 0, 8, 3, 0, 0, 0, 0);
        x.allow(2, 3).is(true);
        x.protect().is(7);
        x.isGuarded(2, 3, 0, 11, 3, 0, 8, 3, 0, 11, 3, 4, 8, 3, 0, 10, 4, 0, 0, 0, 0);
        for (int to = -1; to <= 7; to++) {
            x.start(true).is(true);
            x.overwrite(0, to).is(true);
            x.run(9).is(2);
            x.state().is(2);
            x.pc().is(1);
        }
    }

    private static void guardHasNumberOfJoinedClass() {
        Report.sentence(WHERE, "the number of its targets' class: also where classes were joined later");
        Subject x = Subject.filled(24, 8, 0, 0);
        x.allow(0, 22).is(true);
        x.allow(23, 21).is(true);
        x.allow(12, 20).is(true);
        x.allow(11, 22).is(true);
        x.allow(11, 21).is(true);
        x.allow(11, 3).is(true);
        x.protect().is(52);
        for (int i = 0; i < 24; i++) {
            int label = x.label(i).answer();
            int guard = x.place(i).answer() + (label > 0 ? 1 : 0);
            x.guarded(guard, 0).is(11);
            x.guarded(guard, 2).is(i == 0 || i == 23 || i == 11 ? 4 : i == 12 ? 21 : 0);
        }
    }

    private static void goesOnAtNext() {
        Report.sentence(WHERE, "But where another address is said it goes on at the next one.");
        Subject x = Subject.of(
            1, 0, 9, 2, 1, 0, 3, 0, 0, 4, 0, 0, 5, 0, 0, 7, 0, 0, 9, 2, 8, 8, 2, 0, 6, 9, 0, 0, 0, 0);
        x.allow(7, 8).is(true);
        x.protect().is(12);
        x.start(true).is(true);
        for (int at = 0; at <= 11; at++) {
            x.pc().is(at);
            x.run(1).is(1);
        }
        x.pc().is(11);
        x.state().is(1);
    }

    private static void addressesCountFromZero() {
        Report.sentence(WHERE, "Addresses count instructions from 0.");
        Subject x = Subject.of(5, 0, 0, 9, 0, 0, 8, 0, 0);
        x.protect().is(4);
        x.start(false).is(true);
        x.pc().is(0);
        x.run(3).is(3);
        x.pc().is(0);
        x.run(1).is(1);
        x.shown(0).is(0);
        x.shows().is(2);
    }

    private static void sourceHasTwentyFour() {
        Report.sentence(WHERE, "THE SOURCE has at most 24 instructions of ops 0 to 9.");
        for (int op = 0; op <= 9; op++) {
            Subject x = Subject.filled(22, op, 0, 0);
            x.source(22, 0).is(-9);
            x.add(op, 0, 0).is(22);
            x.add(op, 0, 0).is(23);
            x.add(op, 0, 0).is(-2);
            x.source(23, 0).is(op);
            x.source(24, 0).is(-9);
        }
        Subject none = new Subject();
        none.add(-1, 0, 0).is(-1);
        none.add(10, 0, 0).is(-1);
        none.add(11, 0, 0).is(-1);
        none.source(0, 0).is(-9);
    }

    private static void edgesAreFortyEight() {
        Report.sentence(WHERE, "EDGES are pairs .., at most 48.");
        Subject x = Subject.of(8, 0, 0, 8, 1, 0, 8, 2, 0);
        for (int i = 3; i < 24; i++) {
            x.add(0, 0, 0).is(i);
        }
        for (int i = 0; i < 47; i++) {
            x.allow(i / 24, i % 24).is(true);
        }
        x.label(23).is(1);
        x.allow(1, 23).is(true);
        for (int target = 0; target < 24; target++) {
            x.allow(2, target).is(false);
        }
        x.protect().is(51);
        // The third jump got no edge.
        x.guarded(7, 0).is(11);
        x.guarded(7, 2).is(0);
    }

    private static void pairsAreOrdered() {
        Report.sentence(WHERE, "EDGES are pairs of an indirect jump of the source and an instruction");
        Subject x = Subject.of(8, 0, 0, 8, 0, 0);
        x.allow(0, 1).is(true);
        x.label(0).is(0);
        x.label(1).is(2);
        x.allow(1, 0).is(true);
        x.label(0).is(1);
        x.label(1).is(2);
        x.allow(0, 0).is(true);
        x.label(1).is(1);
        x.allow(1, 1).is(true);
        x.allow(0, 1).is(false);
    }

    private static void targetsOfOneJumpAreOneClass() {
        Report.sentence(WHERE, "all targets of one jump are in one class");
        Subject x = Subject.filled(24, 8, 0, 0);
        for (int target = 23; target >= 0; target--) {
            x.allow(5, target).is(true);
            x.label(target).is(target + 1);
            x.label(23).is(target + 1);
            x.label(0).is(target == 0 ? 1 : 0);
        }
        for (int i = 0; i < 24; i++) {
            x.label(i).is(1);
        }
    }

    private static void chainsJoinClasses() {
        Report.sentence(WHERE, "targets that share a jump, or are joined by a chain of such .., others are not");
        Subject x = Subject.filled(24, 8, 0, 0);
        for (int i = 0; i < 23; i++) {
            x.allow(i, i).is(true);
            x.label(i).is(i + 1);
        }
        for (int i = 22; i > 12; i--) {
            x.allow(i - 1, i).is(true);
            x.label(22).is(i);
            x.label(i - 1).is(i);
            x.label(i - 2).is(i - 1);
        }
        x.label(23).is(0);
        for (int i = 0; i < 23; i++) {
            x.label(i).is(i < 12 ? i + 1 : 13);
        }
        x.allow(12, 3).is(true);
        for (int i = 0; i < 23; i++) {
            x.label(i).is(i < 12 ? i + 1 : 4);
        }
    }

    private static void jumpThatIsTargetJoinsNothing() {
        Report.sentence(WHERE, "others are not: a jump's own address joins nothing");
        Subject x = Subject.filled(4, 8, 0, 0);
        x.allow(0, 1).is(true);
        x.allow(1, 2).is(true);
        x.allow(2, 3).is(true);
        for (int i = 0; i < 4; i++) {
            x.label(i).is(i == 0 ? 0 : i + 1);
        }
        x.protect().is(11);
        x.guarded(0, 2).is(2);
        x.guarded(3, 2).is(3);
        x.guarded(6, 2).is(4);
        x.guarded(9, 2).is(0);
    }

    private static void classNumberIsLeastAddress() {
        Report.sentence(WHERE, "The NUMBER of a class is 1 + the least address of its targets.");
        Subject x = Subject.filled(24, 8, 0, 0);
        x.allow(0, 23).is(true);
        x.label(23).is(24);
        x.allow(0, 22).is(true);
        x.label(23).is(23);
        x.label(22).is(23);
        x.allow(1, 1).is(true);
        x.allow(1, 2).is(true);
        x.label(1).is(2);
        x.label(2).is(2);
        x.allow(1, 0).is(true);
        x.label(0).is(1);
        x.label(2).is(1);
        x.label(22).is(23);
        x.allow(2, 2).is(true);
        x.allow(2, 23).is(true);
        x.label(22).is(1);
    }

    private static void guardedProgramInOrder() {
        Report.sentence(WHERE, "in order: a label .. (b is 0) ..; then .. a guard ..; then the instruction");
        Subject x = Subject.of(1, 3, 99, 8, 2, 98, 8, 1, 97, 0, 96, 95);
        x.allow(1, 2).is(true);
        x.allow(1, 3).is(true);
        x.protect().is(8);
        x.isGuarded(1, 3, 99, 11, 2, 3, 8, 2, 98, 10, 3, 0, 11, 1, 0, 8, 1, 97, 10, 3, 0, 0, 96, 95);
    }

    private static void addressesBecomePlaces() {
        Report.sentence(WHERE, "the instruction, with addresses (a of op 6, b of ops 7 and 9) replaced by PLACES");
        // Every number is 2, whose place is 4; only addresses may change.
        Subject x = Subject.of(
            8, 2, 2, 0, 2, 2, 1, 2, 2, 2, 2, 2, 3, 2, 2, 4, 2, 2, 5, 2, 2, 6, 2, 2, 7, 2, 2, 8, 2, 2, 9, 2, 2, 0, 2, 2);
        x.allow(0, 0).is(true);
        x.protect().is(15);
        x.place(2).is(4);
        x.isGuarded(
            10, 1, 0, 11, 2, 1, 8, 2, 2, 0, 2, 2, 1, 2, 2, 2, 2, 2, 3, 2, 2, 4, 2, 2, 5, 2, 2, 6, 4, 2, 7, 2, 4,
            11, 2, 0, 8, 2, 2, 9, 2, 4, 0, 2, 2);
        Report.sentence(WHERE, "addresses replaced by PLACES: first, own, next and last instruction");
        Subject y = Subject.of(6, 4, 0, 8, 0, 0, 7, 0, 2, 9, 1, 0, 8, 0, 0);
        y.allow(1, 4).is(true);
        y.allow(1, 0).is(true);
        y.protect().is(9);
        y.isGuarded(10, 1, 0, 6, 6, 0, 11, 0, 1, 8, 0, 0, 7, 0, 4, 9, 1, 0, 10, 1, 0, 11, 0, 0, 8, 0, 0);
    }

    private static void placeIsTheFirstPut() {
        Report.sentence(WHERE, "The PLACE .. is where the first of these stands that were put for it.");
        Subject x = Subject.of(5, 0, 0, 8, 0, 0, 5, 0, 0, 8, 0, 0, 0, 0, 0);
        x.allow(1, 2).is(true);
        x.allow(1, 3).is(true);
        x.protect().is(9);
        int[] places = {0, 1, 3, 5, 8};
        int[] first = {5, 11, 10, 10, 0};
        for (int i = 0; i < places.length; i++) {
            x.place(i).is(places[i]);
            x.guarded(places[i], 0).is(first[i]);
        }
    }

    private static void undisturbedDoesTheSame() {
        Report.sentence(WHERE, "a program that nobody disturbs does what it did before");
        for (boolean guards : new boolean[] {false, true}) {
            Subject x = Situation.started(guards);
            x.run(1000).is(guards ? 15 : 12);
            x.state().is(1);
            x.shows().is(3);
            x.isShown(guards ? 11 : 9, 14, 7, 0);
            x.register(0).is(14);
            x.memory(2).is(7);
        }
    }

    private static void goesToPlaceThatSharesLabel() {
        Report.sentence(WHERE, "a place declared for it (or one that shares a label with it), or the program stops");
        Subject x = Subject.of(2, 0, 0, 8, 0, 0, 8, 1, 0, 0, 0, 0, 0, 0, 0, 0, 0, 0);
        x.allow(1, 3).is(true);
        x.allow(2, 3).is(true);
        x.allow(2, 4).is(true);
        x.protect().is(10);
        int[] ends = {2, 2, 2, 2, 2, 1, 2, 1, 2, 2, 2};
        for (int to = 0; to < ends.length; to++) {
            x.start(true).is(true);
            x.overwrite(0, to).is(true);
            x.run(9).is(ends[to] == 1 ? 5 : 2);
            x.state().is(ends[to]);
            x.pc().is(ends[to] == 1 ? to + 1 : 1);
        }
    }

    public static void main(String[] args) {
        lastsFor512Calls();
        registersAreFour();
        cellsAreSixteen();
        sumWraps();
        jumpsIfZero();
        goesOnAtAddress();
        goesAstray();
        guardWantsLabelOfItsNumber();
        guardKnowsLongPrograms();
        guardOfNoTargetNeverHolds();
        guardHasNumberOfJoinedClass();
        goesOnAtNext();
        addressesCountFromZero();
        sourceHasTwentyFour();
        edgesAreFortyEight();
        pairsAreOrdered();
        targetsOfOneJumpAreOneClass();
        chainsJoinClasses();
        jumpThatIsTargetJoinsNothing();
        classNumberIsLeastAddress();
        guardedProgramInOrder();
        addressesBecomePlaces();
        placeIsTheFirstPut();
        undisturbedDoesTheSame();
        goesToPlaceThatSharesLabel();
        Report.end();
    }
}
