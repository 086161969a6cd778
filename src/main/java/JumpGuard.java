import java.util.Arrays;

/** Guards the indirect jumps of a program whose data memory somebody else may overwrite at any moment. */
public final class JumpGuard {
    private static final int HALT = 0;
    private static final int SET = 1;
    private static final int LOAD = 2;
    private static final int STORE = 3;
    private static final int SUM = 4;
    private static final int SHOW = 5;
    private static final int GO = 6;
    private static final int GO_IF_ZERO = 7;
    private static final int GO_INDIRECT = 8;
    private static final int SET_ADDRESS = 9;
    private static final int LABEL = 10;
    private static final int GUARD = 11;

    private static final int OP = 0;
    private static final int A = 1;
    private static final int B = 2;
    private static final int FIELDS = 3;

    private static final int REGISTERS = 4;
    private static final int CELLS = 16;
    private static final int MOST_SOURCE = 24;
    // Each instruction of the source may get a label and a guard.
    private static final int MOST_GUARDED = 72;
    private static final int MOST_EDGES = 48;
    private static final int MOST_STEPS = 1000;
    // A power of two, so that a mask keeps every index inside the row.
    private static final int SHOWN_KEPT = 8;

    private static final int NOTHING_RUNS = -1;
    private static final int RUNS = 0;
    private static final int HALTED = 1;
    private static final int VIOLATION = 2;
    private static final int ASTRAY = 3;

    private static final int NO_INSTRUCTION = -9;

    private final Program sourceProgram;
    // Empty stands for "no guarded program": a true one is never empty.
    private final Program guardedProgram;
    private final Edges edges;
    private final int[] places;
    private final Machine machine;

    public JumpGuard() {
        sourceProgram = new Program(MOST_SOURCE);
        guardedProgram = new Program(MOST_GUARDED);
        edges = new Edges();
        places = new int[MOST_SOURCE];
        machine = new Machine();
    }

    public int add(int op, int a, int b) {
        if (!isSourceInstruction(op, a, b)) {
            return -1;
        }
        if (sourceProgram.isFull()) {
            return -2;
        }
        int address = sourceProgram.length();
        sourceProgram.append(op, a, b);
        dropGuarded();
        return address;
    }

    public boolean allow(int jump, int target) {
        if (sourceProgram.get(jump, OP) != GO_INDIRECT || !sourceProgram.has(target)) {
            return false;
        }
        if (!edges.connect(jump, target)) {
            return false;
        }
        dropGuarded();
        return true;
    }

    public int protect() {
        dropGuarded();
        if (!isClosed()) {
            return -1;
        }
        setPlaces();
        for (int i = 0; i < sourceProgram.length(); i++) {
            appendGuarded(i);
        }
        return guardedProgram.length();
    }

    public int source(int i, int field) {
        return sourceProgram.get(i, field);
    }

    public int guarded(int i, int field) {
        return guardedProgram.get(i, field);
    }

    public int place(int i) {
        if (!isGuarded() || !sourceProgram.has(i)) {
            return -1;
        }
        return placeOf(i);
    }

    public int label(int i) {
        return sourceProgram.has(i) ? edges.numberOfTarget(i) : -1;
    }

    public boolean start(boolean guards) {
        if (!isGuarded()) {
            return false;
        }
        machine.begin(guards ? guardedProgram : sourceProgram);
        return true;
    }

    public int run(int n) {
        return n >= 0 && n <= MOST_STEPS ? machine.makeSteps(n) : 0;
    }

    public int state() {
        return machine.condition;
    }

    public boolean overwrite(int cell, int v) {
        if (machine.isIdle() || !isCell(cell)) {
            return false;
        }
        machine.setCell(cell, v);
        return true;
    }

    public int memory(int cell) {
        return machine.isIdle() ? 0 : machine.cellValue(cell);
    }

    public int register(int r) {
        return machine.isIdle() ? 0 : machine.registerValue(r);
    }

    public int pc() {
        return machine.isIdle() ? -1 : machine.counter;
    }

    public int shows() {
        return machine.isIdle() ? 0 : machine.showCount;
    }

    public int shown(int k) {
        return machine.isIdle() ? 0 : machine.shownBefore(k);
    }

    private static boolean isSourceInstruction(int op, int a, int b) {
        switch (op) {
            case HALT:
                return true;
            case SET:
            case SHOW:
            case GO_INDIRECT:
                return isRegister(a);
            case LOAD:
            case STORE:
                return isRegister(a) && isCell(b);
            case SUM:
                return isRegister(a) && isRegister(b);
            case GO:
                return isAddress(a);
            case GO_IF_ZERO:
            case SET_ADDRESS:
                return isRegister(a) && isAddress(b);
            default:
                return false;
        }
    }

    private static boolean isRegister(int r) {
        return r >= 0 && r < REGISTERS;
    }

    private static boolean isCell(int cell) {
        return cell >= 0 && cell < CELLS;
    }

    private static boolean isAddress(int address) {
        return address >= 0 && address < MOST_SOURCE;
    }

    private static boolean holdsAddressInB(int op) {
        return op == GO_IF_ZERO || op == SET_ADDRESS;
    }

    private boolean isGuarded() {
        return guardedProgram.length() > 0;
    }

    private void dropGuarded() {
        guardedProgram.clear();
        machine.stop();
    }

    /** Whether no step of the source but an indirect jump can lead out of it. */
    private boolean isClosed() {
        int last = sourceProgram.get(sourceProgram.length() - 1, OP);
        if (last != HALT && last != GO && last != GO_INDIRECT) {
            return false;
        }
        for (int i = 0; i < sourceProgram.length(); i++) {
            if (!hasItsAddress(i)) {
                return false;
            }
        }
        return true;
    }

    private boolean hasItsAddress(int i) {
        int op = sourceProgram.get(i, OP);
        if (op == GO) {
            return sourceProgram.has(sourceProgram.get(i, A));
        }
        return !holdsAddressInB(op) || sourceProgram.has(sourceProgram.get(i, B));
    }

    // All places come before the first instruction is put, because addresses may point forward.
    private void setPlaces() {
        int next = 0;
        for (int i = 0; i < sourceProgram.length() && i < places.length; i++) {
            places[i] = next;
            next += 1;
            if (edges.numberOfTarget(i) != 0) {
                next += 1;
            }
            if (sourceProgram.get(i, OP) == GO_INDIRECT) {
                next += 1;
            }
        }
    }

    private int placeOf(int address) {
        return isAddress(address) ? places[address] : -1;
    }

    private void appendGuarded(int i) {
        int op = sourceProgram.get(i, OP);
        int a = sourceProgram.get(i, A);
        int b = sourceProgram.get(i, B);
        int number = edges.numberOfTarget(i);
        if (number != 0) {
            guardedProgram.append(LABEL, number, 0);
        }
        if (op == GO_INDIRECT) {
            guardedProgram.append(GUARD, a, edges.numberOfJump(i));
        }
        guardedProgram.append(op, op == GO ? placeOf(a) : a, holdsAddressInB(op) ? placeOf(b) : b);
    }

    /** A row of instructions. */
    private static final class Program {
        private final int[] numbers;
        private final int most;
        private int count;

        /** For at most MOST_GUARDED instructions. */
        Program(int size) {
            most = Math.max(0, Math.min(size, MOST_GUARDED));
            numbers = new int[most * FIELDS];
        }

        int length() {
            return count;
        }

        boolean isFull() {
            return count >= most;
        }

        boolean has(int i) {
            return i >= 0 && i < count;
        }

        int get(int i, int field) {
            if (!has(i) || field < 0 || field >= FIELDS) {
                return NO_INSTRUCTION;
            }
            return numbers[i * FIELDS + field];
        }

        void append(int op, int a, int b) {
            if (isFull()) {
                return;
            }
            numbers[count * FIELDS + OP] = op;
            numbers[count * FIELDS + A] = a;
            numbers[count * FIELDS + B] = b;
            count++;
        }

        void clear() {
            count = 0;
        }
    }

    /** The edges, and the numbers of the classes that they make. */
    private static final class Edges {
        // Of each jump the set of its targets, a bit for each address.
        private final int[] targets = new int[MOST_SOURCE];
        private final int[] targetNumbers = new int[MOST_SOURCE];
        private final int[] jumpNumbers = new int[MOST_SOURCE];
        private int count;

        /** Adds an edge; false if it is there already or there is no room. */
        boolean connect(int jump, int target) {
            if (!isAddress(jump) || !isAddress(target) || count >= MOST_EDGES) {
                return false;
            }
            int bit = 1 << target;
            if ((targets[jump] & bit) != 0) {
                return false;
            }
            targets[jump] |= bit;
            count++;
            if (targetNumbers[target] == 0) {
                targetNumbers[target] = target + 1;
            }
            joinClasses(jump, target);
            return true;
        }

        int numberOfTarget(int i) {
            return isAddress(i) ? targetNumbers[i] : 0;
        }

        int numberOfJump(int i) {
            return isAddress(i) ? jumpNumbers[i] : 0;
        }

        private void joinClasses(int jump, int target) {
            int mine = numberOfJump(jump);
            int other = numberOfTarget(target);
            if (mine == 0) {
                jumpNumbers[jump] = other;
                return;
            }
            // The lesser number is 1 + the least address of both classes together.
            int kept = Math.min(mine, other);
            int gone = Math.max(mine, other);
            renumber(targetNumbers, gone, kept);
            renumber(jumpNumbers, gone, kept);
        }

        private static void renumber(int[] row, int gone, int kept) {
            for (int i = 0; i < row.length; i++) {
                if (row[i] == gone) {
                    row[i] = kept;
                }
            }
        }
    }

    /** What runs a program. */
    private static final class Machine {
        private final int[] registers = new int[REGISTERS];
        private final int[] cells = new int[CELLS];
        private final int[] lastShown = new int[SHOWN_KEPT];
        // An empty one until something begins, so that it is never null.
        private Program program = new Program(0);
        private int counter;
        private int condition = NOTHING_RUNS;
        private int showCount;

        void begin(Program what) {
            program = what;
            Arrays.fill(registers, 0);
            Arrays.fill(cells, 0);
            counter = 0;
            showCount = 0;
            condition = RUNS;
        }

        void stop() {
            condition = NOTHING_RUNS;
        }

        boolean isIdle() {
            return condition == NOTHING_RUNS;
        }

        int makeSteps(int n) {
            int made = 0;
            while (made < n && condition == RUNS) {
                makeStep();
                made++;
            }
            return made;
        }

        int registerValue(int r) {
            return isRegister(r) ? registers[r] : 0;
        }

        int cellValue(int cell) {
            return isCell(cell) ? cells[cell] : 0;
        }

        void setCell(int cell, int v) {
            if (isCell(cell)) {
                cells[cell] = v;
            }
        }

        int shownBefore(int k) {
            if (k < 0 || k >= SHOWN_KEPT || k >= showCount) {
                return 0;
            }
            return lastShown[(showCount - 1 - k) & (SHOWN_KEPT - 1)];
        }

        private void makeStep() {
            int next = carryOut(program.get(counter, OP), program.get(counter, A), program.get(counter, B));
            if (condition == RUNS) {
                counter = next;
            }
        }

        /** Does one instruction and answers the address where it goes on, if it does not end there. */
        private int carryOut(int op, int a, int b) {
            int next = counter + 1;
            switch (op) {
                case HALT:
                    condition = HALTED;
                    return next;
                case SET:
                case SET_ADDRESS:
                    setRegister(a, b);
                    return next;
                case LOAD:
                    setRegister(a, cellValue(b));
                    return next;
                case STORE:
                    setCell(b, registerValue(a));
                    return next;
                case SUM:
                    setRegister(a, registerValue(a) + registerValue(b));
                    return next;
                case SHOW:
                    keepShown(registerValue(a));
                    return next;
                case GO:
                    return a;
                case GO_IF_ZERO:
                    return registerValue(a) == 0 ? b : next;
                case GO_INDIRECT:
                    return jumpTo(registerValue(a));
                case GUARD:
                    checkLabel(registerValue(a), b);
                    return next;
                case LABEL:
                default:
                    return next;
            }
        }

        private void setRegister(int r, int v) {
            if (isRegister(r)) {
                registers[r] = v;
            }
        }

        private void keepShown(int v) {
            lastShown[showCount & (SHOWN_KEPT - 1)] = v;
            showCount++;
        }

        private int jumpTo(int address) {
            if (!program.has(address)) {
                condition = ASTRAY;
            }
            return address;
        }

        private void checkLabel(int address, int number) {
            if (program.get(address, OP) != LABEL || program.get(address, A) != number) {
                condition = VIOLATION;
            }
        }
    }
}
