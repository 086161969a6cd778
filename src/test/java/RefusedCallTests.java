import java.util.ArrayList;
import java.util.List;

/** A call that is refused changes nothing. Questions change nothing. In every situation, each such call. */
public final class RefusedCallTests {
    private static final int LEAST = Subject.LEAST;
    private static final int MOST = Subject.MOST;
    private static final int[] WRONG_ADDS = {
        -1, 0, 0, 10, 0, 0, 11, 0, 0, LEAST, 0, 0, MOST, 0, 0,
        1, -1, 0, 1, 4, 0, 2, -1, 0, 2, 4, 0, 3, -1, 0, 3, 4, 0, 4, -1, 0, 4, 4, 0, 5, -1, 0, 5, 4, 0,
        7, -1, 0, 7, 4, 0, 8, -1, 0, 8, 4, 0, 9, -1, 0, 9, 4, 0,
        4, 0, -1, 4, 0, 4, 2, 0, -1, 2, 0, 16, 3, 0, -1, 3, 0, 16,
        6, -1, 0, 6, 24, 0, 7, 0, -1, 7, 0, 24, 9, 0, -1, 9, 0, 24};

    private interface Call {
        void on(Subject x);
    }

    /** Compares with a twin that the call was not made on: one object has not calls enough to be asked twice. */
    private static void leavesAsBefore(Situation s, Call call) {
        Subject asked = s.made().get();
        call.on(asked);
        String where = s.name() + ", after " + asked.lastCall();
        isSame(where, s.made().get().answers(), asked.answers());
        Subject goesOn = s.made().get();
        call.on(goesOn);
        isSame(where, s.made().get().future(), goesOn.future());
    }

    private static void isSame(String where, List<String> due, List<String> got) {
        for (int i = 0; i < due.size(); i++) {
            if (!due.get(i).equals(got.get(i))) {
                Report.wrong(where + ": due is " + due.get(i) + ", it was " + got.get(i));
                return;
            }
        }
    }

    private static void addWrong() {
        Report.sentence("Terms", "A call that is refused changes nothing: add, -1");
        for (Situation s : Situation.all()) {
            for (int i = 0; i < WRONG_ADDS.length; i += 3) {
                int at = i;
                leavesAsBefore(s, x -> x.add(WRONG_ADDS[at], WRONG_ADDS[at + 1], WRONG_ADDS[at + 2]).is(-1));
            }
        }
    }

    private static void addFull() {
        Report.sentence("Terms", "A call that is refused changes nothing: add, -2");
        for (Situation s : Situation.all()) {
            for (int op = 0; op <= 9 && s.length() == 24; op++) {
                int full = op;
                leavesAsBefore(s, x -> x.add(full, 3, 2).is(-2));
            }
        }
    }

    private static void allowWrong() {
        Report.sentence("Terms", "A call that is refused changes nothing: allow without such a jump or target");
        for (Situation s : Situation.all()) {
            for (int wrong : new int[] {LEAST, -1, s.length(), 24, 32, MOST}) {
                leavesAsBefore(s, x -> x.allow(wrong, 0).is(false));
                leavesAsBefore(s, x -> x.allow(Situation.JUMP, wrong).is(false));
                leavesAsBefore(s, x -> x.allow(0, wrong).is(false));
            }
        }
        for (Situation s : Situation.guardedWithRoom()) {
            for (int i = 0; i < s.length(); i++) {
                int jump = i;
                if (jump != Situation.JUMP) {
                    leavesAsBefore(s, x -> x.allow(jump, Situation.NEW_TARGET).is(false));
                }
            }
        }
    }

    private static void allowAgain() {
        Report.sentence("Terms", "A call that is refused changes nothing: allow of a pair that is there");
        for (Situation s : Situation.guardedWithRoom()) {
            leavesAsBefore(s, x -> x.allow(Situation.JUMP, Situation.TARGET).is(false));
            leavesAsBefore(s, x -> x.allow(Situation.JUMP, 2).is(false));
        }
    }

    private static void allowFull() {
        Report.sentence("Terms", "A call that is refused changes nothing: allow where there are 48");
        for (Situation s : Situation.all()) {
            for (int i = 0; i < 24 && s.edges() == 48; i++) {
                int at = i;
                leavesAsBefore(s, x -> x.allow(at, 2).is(false));
                leavesAsBefore(s, x -> x.allow(at, 23).is(false));
                leavesAsBefore(s, x -> x.allow(at, 0).is(false));
            }
        }
    }

    private static void protectRefused() {
        Report.sentence("Terms", "A call that is refused changes nothing: protect, -1");
        for (Situation s : Situation.all()) {
            if (s.name().equals("new") || s.name().equals("not closed")) {
                leavesAsBefore(s, x -> x.protect().is(-1));
            }
        }
    }

    private static void startRefused() {
        Report.sentence("Terms", "A call that is refused changes nothing: start");
        for (Situation s : Situation.all()) {
            if (!s.guarded()) {
                leavesAsBefore(s, x -> x.start(true).is(false));
                leavesAsBefore(s, x -> x.start(false).is(false));
            }
        }
    }

    private static void runRefused() {
        Report.sentence("Terms", "A call that is refused changes nothing: run of too few or too many");
        for (Situation s : Situation.all()) {
            for (int n : new int[] {LEAST, -1000, -1, 0, 1001, 1002, MOST}) {
                leavesAsBefore(s, x -> x.run(n).is(0));
            }
        }
        Report.sentence("Terms", "A call that is refused changes nothing: run of nothing, or after the end");
        for (Situation s : Situation.all()) {
            for (int n : new int[] {1, 2, 1000}) {
                if (s.state() != 0) {
                    leavesAsBefore(s, x -> x.run(n).is(0));
                }
            }
        }
    }

    private static void overwriteRefused() {
        Report.sentence("Terms", "A call that is refused changes nothing: overwrite of no such cell");
        for (Situation s : Situation.all()) {
            for (int cell : new int[] {LEAST, -1, 16, 17, 32, MOST}) {
                leavesAsBefore(s, x -> x.overwrite(cell, 77).is(false));
            }
        }
        Report.sentence("Terms", "A call that is refused changes nothing: overwrite where nothing runs");
        for (Situation s : Situation.all()) {
            for (int i = 0; i < 16 && s.state() < 0; i++) {
                int cell = i;
                leavesAsBefore(s, x -> x.overwrite(cell, 77).is(false));
            }
        }
    }

    private static List<Call> questions() {
        List<Call> all = new ArrayList<>();
        for (int i : new int[] {LEAST, -1, 0, 1, 3, 4, 7, 8, 9, 15, 16, 23, 24, 71, 72, MOST}) {
            for (int field : new int[] {LEAST, -1, 0, 1, 2, 3, MOST}) {
                all.add(x -> x.source(i, field));
                all.add(x -> x.guarded(i, field));
            }
            all.add(x -> x.place(i));
            all.add(x -> x.label(i));
            all.add(x -> x.memory(i));
            all.add(x -> x.register(i));
            all.add(x -> x.shown(i));
        }
        all.add(x -> x.state());
        all.add(x -> x.pc());
        all.add(x -> x.shows());
        return all;
    }

    private static void questionsChangeNothing() {
        Report.sentence("Terms", "Questions change nothing.");
        List<Call> questions = questions();
        for (Situation s : Situation.all()) {
            for (Call question : questions) {
                leavesAsBefore(s, question);
            }
        }
    }

    private static void objectsAreApart() {
        Report.sentence("Promise 1", "A new object: what is done to another changes nothing");
        for (Situation s : Situation.all()) {
            leavesAsBefore(s, x -> {
                Subject other = Situation.violated();
                other.overwrite(0, 1).is(true);
                other.allow(Situation.JUMP, Situation.NEW_TARGET).is(true);
            });
        }
    }

    public static void main(String[] args) {
        addWrong();
        addFull();
        allowWrong();
        allowAgain();
        allowFull();
        protectRefused();
        startRefused();
        runRefused();
        overwriteRefused();
        questionsChangeNothing();
        objectsAreApart();
        Report.end();
    }
}
