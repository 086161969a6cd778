import java.util.List;
import java.util.function.Supplier;

/** A way to bring a new object somewhere, and what is so of it there. */
record Situation(String name, int length, boolean guarded, int state, int edges, Supplier<Subject> made) {
    // Of the worker: its jump, one of its two targets, and an instruction that is none yet.
    static final int JUMP = 8;
    static final int TARGET = 9;
    static final int NEW_TARGET = 11;

    /** Every kind of object that the document tells apart. */
    static List<Situation> all() {
        return List.of(
            new Situation("new", 0, false, -1, 0, Subject::new),
            new Situation("not closed", 4, false, -1, 2, Situation::notClosed),
            new Situation("not protected", 12, false, -1, 2, Situation::worker),
            new Situation("protected", 12, true, -1, 2, Situation::guardedWorker),
            new Situation("just started", 12, true, 0, 2, () -> started(true)),
            new Situation("source runs", 12, true, 0, 2, () -> running(false)),
            new Situation("guarded runs", 12, true, 0, 2, () -> running(true)),
            new Situation("source halted", 12, true, 1, 2, () -> halted(false)),
            new Situation("guarded halted", 12, true, 1, 2, () -> halted(true)),
            new Situation("violation", 12, true, 2, 2, Situation::violated),
            new Situation("astray", 12, true, 3, 2, Situation::astray),
            new Situation("24 instructions", 24, true, 0, 1, Situation::fullSource),
            new Situation("24 instructions, not protected", 24, false, -1, 0, () -> Subject.filled(24, 8, 1, 3)),
            new Situation("48 edges", 24, true, 0, 48, Situation::fullEdges));
    }

    /** Those with a guarded program whose source and edges have room. */
    static List<Situation> guardedWithRoom() {
        return all().stream().filter(s -> s.guarded && s.length < 24).toList();
    }

    private static Subject notClosed() {
        Subject x = Subject.of(8, 0, 0, 5, 0, 0, 9, 0, 23, 5, 1, 0);
        x.allow(0, 1).is(true);
        return x.allow(0, 0).is(true);
    }

    /** It sets registers and cells, shows 7, 14 and the target, and jumps to its instruction 9 by way of cell 5. */
    static Subject worker() {
        Subject x = Subject.of(
            1, 0, 7, 3, 0, 2, 5, 0, 0, 4, 0, 0, 5, 0, 0, 9, 1, 9,
            3, 1, 5, 2, 3, 5, 8, 3, 0, 5, 3, 0, 7, 2, 11, 0, 0, 0);
        x.allow(8, 9).is(true);
        return x.allow(8, 2).is(true);
    }

    static Subject guardedWorker() {
        return worker().protect().is(15);
    }

    static Subject started(boolean guards) {
        return guardedWorker().start(guards).is(true);
    }

    /** Where the jump's address lies in cell 5 and is not yet loaded. */
    static Subject running(boolean guards) {
        Subject x = started(guards);
        x.run(guards ? 8 : 7).is(guards ? 8 : 7);
        x.overwrite(15, -1).is(true);
        return x.state().is(0);
    }

    static Subject halted(boolean guards) {
        Subject x = running(guards);
        x.run(1000).is(guards ? 7 : 5);
        return x.state().is(1);
    }

    static Subject violated() {
        Subject x = running(true);
        x.overwrite(5, 99).is(true);
        x.run(1000).is(2);
        return x.state().is(2);
    }

    static Subject astray() {
        Subject x = running(false);
        x.overwrite(5, 99).is(true);
        x.run(1000).is(2);
        return x.state().is(3);
    }

    private static Subject fullSource() {
        Subject x = Subject.filled(11, 1, 2, 5);
        for (int i = 11; i < 22; i++) {
            x.add(5, 2, 0).is(i);
        }
        x.add(8, 0, 0).is(22);
        x.add(6, 11, 0).is(23);
        x.allow(22, 11).is(true);
        x.protect().is(26);
        x.start(true).is(true);
        return x.run(16).is(16);
    }

    private static Subject fullEdges() {
        Subject x = Subject.filled(24, 8, 1, 0);
        for (int i = 0; i < 48; i++) {
            x.allow(i % 24, i / 24).is(true);
        }
        x.protect().is(50);
        x.start(true).is(true);
        x.overwrite(3, 4).is(true);
        return x.run(4).is(4);
    }
}
