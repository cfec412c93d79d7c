/**
 * Finds which registers of a whole program's functions have the same number each time, copies
 * functions for calls that say more than others, makes the new program of that, and runs the
 * program of before and the new one.
 */
public final class ConstantSpread {
    private static final int MOVE = 0;
    private static final int ADD = 1;
    private static final int SUBTRACT = 2;
    private static final int MULTIPLY = 3;
    private static final int LESS = 4;
    private static final int INPUT = 5;
    private static final int OUTPUT = 6;
    private static final int IF = 7;
    private static final int GO = 8;
    private static final int RETURN = 9;
    private static final int CALL = 10;
    private static final int TABLE_CALL = 11;
    private static final int NOTHING = 12;

    private static final int OPERATION = 0;
    private static final int D = 1;
    private static final int X = 2;
    private static final int A = 3;
    private static final int B = 4;
    private static final int C = 5;
    private static final int FIELDS = 6;

    private static final int MAIN = 0;
    private static final int MOST_FUNCTIONS = 6;
    private static final int MOST_COPIES = 6;
    private static final int ALL_FUNCTIONS = MOST_FUNCTIONS + MOST_COPIES;
    private static final int MOST_STATEMENTS = 16;
    private static final int PLACES = MOST_STATEMENTS + 1;
    private static final int REGISTERS = 6;
    private static final int MOST_PARAMETERS = 3;
    private static final int MOST_ENTRIES = 4;
    private static final int MOST_INPUTS = 12;
    private static final int MOST_OUTPUTS = 40;
    private static final int MOST_OPEN_CALLS = 11;
    private static final int MOST_DONE = 3000;
    private static final int NUMBERS_LEAST = -(1 << 28);
    private static final int NUMBERS_MOST = (1 << 28) - 1;
    private static final int NUMBER_MARK = 7;
    private static final int NONE = -1;

    /** How many of A, B and C an operation uses: always the first ones. */
    private static final int[] OPERANDS_USED = {1, 2, 2, 2, 2, 0, 1, 1, 0, 1, 3, 3, 0};

    private final Program before;
    private final Program after;
    private final Known known;
    private final Finder finder;
    private final Maker maker;
    private final Tally tally;
    private final Machine machine;
    private boolean analysed;

    public ConstantSpread() {
        before = new Program();
        after = new Program();
        known = new Known();
        finder = new Finder(after, known);
        maker = new Maker(after, known);
        tally = new Tally();
        machine = new Machine(before, tally);
        analysed = false;
    }

    public int function(int parameters) throws IllegalArgumentException, IllegalStateException {
        if (parameters < 0 || parameters > MOST_PARAMETERS) {
            throw new IllegalArgumentException("a function has 0 to 3 parameters");
        }
        if (!before.hasFunction(MAIN) && parameters != 0) {
            throw new IllegalArgumentException("main has no parameters");
        }
        if (before.functionCount >= MOST_FUNCTIONS) {
            throw new IllegalStateException("there are 6 functions");
        }
        analysed = false;
        return before.addFunction(parameters);
    }

    public int code(int function, int word, int x, int a, int b, int c)
            throws IndexOutOfBoundsException, IllegalArgumentException, IllegalStateException {
        if (!before.hasFunction(function)) {
            throw new IndexOutOfBoundsException("no such function");
        }
        int operation = word & 15;
        int d = word >> 4;
        if (operation > NOTHING || d < 0 || d >= REGISTERS) {
            throw new IllegalArgumentException("no such operation or register");
        }
        if (!areOperands(OPERANDS_USED[operation], a, b, c) || !isFitX(operation, x)) {
            throw new IllegalArgumentException("an operand or X does not fit the operation");
        }
        if (before.lengths[function] >= MOST_STATEMENTS) {
            throw new IllegalStateException("the function has 16 statements");
        }
        analysed = false;
        int i = before.addStatement(function, operation, d, x);
        before.putField(function, i, A, a);
        before.putField(function, i, B, b);
        before.putField(function, i, C, c);
        return i;
    }

    public int table(int function) throws IndexOutOfBoundsException, IllegalStateException {
        if (!before.hasFunction(function)) {
            throw new IndexOutOfBoundsException("no such function");
        }
        if (before.entryCount >= MOST_ENTRIES) {
            throw new IllegalStateException("the table has 4 functions");
        }
        analysed = false;
        return before.addEntry(function);
    }

    public int input(int v) {
        return machine.addInput(v);
    }

    public void empty() {
        machine.dropInputs();
    }

    public int analyse(int copies) throws IllegalArgumentException, IllegalStateException {
        if (copies < 0 || copies > MOST_COPIES) {
            throw new IllegalArgumentException("0 to 6 copies may be made");
        }
        if (!before.hasFunction(MAIN)) {
            throw new IllegalStateException("there is no main");
        }
        after.becomeLike(before);
        finder.find();
        for (int made = 0; made < copies && maker.copyForSpecialCall(); made++) {
            finder.find();
        }
        maker.makeNewProgram();
        analysed = true;
        return known.countReached(after.functionCount);
    }

    public int functions() {
        return analysed ? after.functionCount : before.functionCount;
    }

    public int kind(int function, int place, int register)
            throws IllegalStateException, IndexOutOfBoundsException {
        int at = askedPlace(function, place, register);
        if (!known.comeTo[at]) {
            return 0;
        }
        return known.hasNumber(at, register) ? 1 : 2;
    }

    public int number(int function, int place, int register)
            throws IllegalStateException, IndexOutOfBoundsException {
        int at = askedPlace(function, place, register);
        return known.comeTo[at] && known.hasNumber(at, register) ? known.numberOf(at, register) : 0;
    }

    public int statement(int function, int i, int what)
            throws IllegalStateException, IndexOutOfBoundsException, IllegalArgumentException {
        if (!analysed) {
            throw new IllegalStateException("nothing is known");
        }
        if (!after.hasFunction(function) || i < 0 || i >= after.lengths[function]) {
            throw new IndexOutOfBoundsException("no such function or statement");
        }
        if (what < 0 || what >= FIELDS) {
            throw new IllegalArgumentException("a statement has the fields 0 to 5");
        }
        return after.fieldOf(function, i, what);
    }

    public int run(boolean anew, int statements)
            throws IllegalArgumentException, IllegalStateException {
        if (statements < 0 || statements > MOST_DONE) {
            throw new IllegalArgumentException("0 to 3000 statements may be run");
        }
        if (!before.hasFunction(MAIN)) {
            throw new IllegalStateException("there is no main");
        }
        if (anew && !analysed) {
            throw new IllegalStateException("there is no new program");
        }
        return machine.execute(anew ? after : before, statements);
    }

    public int done() {
        return tally.doneCount;
    }

    public int outputs() {
        return tally.outputCount;
    }

    public int output(int i) throws IndexOutOfBoundsException {
        if (i < 0 || i >= tally.outputCount) {
            throw new IndexOutOfBoundsException("no such output");
        }
        return tally.outputValues[i];
    }

    public int calls(int function) throws IndexOutOfBoundsException {
        if (function < 0 || function >= ALL_FUNCTIONS) {
            throw new IndexOutOfBoundsException("functions are 0 to 11");
        }
        return tally.callCounts[function];
    }

    public boolean same(int function, int parameter) throws IndexOutOfBoundsException {
        if (!isTallied(function, parameter)) {
            throw new IndexOutOfBoundsException("no such function or parameter");
        }
        return tally.callCounts[function] > 0
                && !tally.differing[function * MOST_PARAMETERS + parameter];
    }

    public int latest(int function, int parameter) throws IndexOutOfBoundsException {
        if (!isTallied(function, parameter)) {
            throw new IndexOutOfBoundsException("no such function or parameter");
        }
        return tally.latestValues[function * MOST_PARAMETERS + parameter];
    }

    private int askedPlace(int function, int place, int register)
            throws IllegalStateException, IndexOutOfBoundsException {
        if (!analysed) {
            throw new IllegalStateException("nothing is known");
        }
        if (!after.hasFunction(function) || place < 0 || place >= PLACES
                || register < 0 || register >= REGISTERS) {
            throw new IndexOutOfBoundsException("no such function, place or register");
        }
        return after.placeOf(function, place);
    }

    private boolean isFitX(int operation, int x) {
        switch (operation) {
            case IF:
            case GO:
                return x >= 0 && x <= MOST_STATEMENTS;
            case CALL:
                return before.hasFunction(x);
            case TABLE_CALL:
                return isOperand(x);
            default:
                return true;
        }
    }

    private static boolean isTallied(int function, int parameter) {
        return function >= 0 && function < ALL_FUNCTIONS
                && parameter >= 0 && parameter < MOST_PARAMETERS;
    }

    private static boolean areOperands(int used, int a, int b, int c) {
        return (used < 1 || isOperand(a)) && (used < 2 || isOperand(b)) && (used < 3 || isOperand(c));
    }

    private static boolean isOperand(int operand) {
        return (operand & 7) < REGISTERS || isNumber(operand);
    }

    private static boolean isNumber(int operand) {
        return (operand & 7) == NUMBER_MARK;
    }

    private static int operandOf(int number) {
        return (number << 3) | NUMBER_MARK;
    }

    private static int compute(int operation, int a, int b) {
        switch (operation) {
            case ADD:
                return a + b;
            case SUBTRACT:
                return a - b;
            case MULTIPLY:
                return a * b;
            case LESS:
                return a < b ? 1 : 0;
            default:
                return a;
        }
    }

    /** Functions with their statements, and the table. */
    private static final class Program {
        int functionCount;
        int entryCount;
        final int[] parameterCounts;
        final int[] lengths;
        final int[] fields;
        final int[] entries;

        Program() {
            functionCount = 0;
            entryCount = 0;
            parameterCounts = new int[ALL_FUNCTIONS];
            lengths = new int[ALL_FUNCTIONS];
            fields = new int[ALL_FUNCTIONS * MOST_STATEMENTS * FIELDS];
            entries = new int[MOST_ENTRIES];
        }

        boolean hasFunction(int function) {
            return function >= 0 && function < functionCount;
        }

        int addFunction(int parameters) {
            int function = functionCount;
            parameterCounts[function] = parameters;
            lengths[function] = 0;
            functionCount++;
            return function;
        }

        int addStatement(int function, int operation, int d, int x) {
            int i = lengths[function];
            putField(function, i, OPERATION, operation);
            putField(function, i, D, d);
            putField(function, i, X, x);
            lengths[function]++;
            return i;
        }

        int addEntry(int function) {
            entries[entryCount] = function;
            entryCount++;
            return entryCount;
        }

        int addCopyOf(int function) {
            int copy = addFunction(parameterCounts[function]);
            lengths[copy] = lengths[function];
            System.arraycopy(fields, startOf(function, 0), fields, startOf(copy, 0),
                    MOST_STATEMENTS * FIELDS);
            return copy;
        }

        void becomeLike(Program other) {
            functionCount = other.functionCount;
            entryCount = other.entryCount;
            System.arraycopy(other.parameterCounts, 0, parameterCounts, 0, ALL_FUNCTIONS);
            System.arraycopy(other.lengths, 0, lengths, 0, ALL_FUNCTIONS);
            System.arraycopy(other.fields, 0, fields, 0, fields.length);
            System.arraycopy(other.entries, 0, entries, 0, MOST_ENTRIES);
        }

        int fieldOf(int function, int i, int what) {
            return fields[startOf(function, i) + what];
        }

        void putField(int function, int i, int what, int value) {
            fields[startOf(function, i) + what] = value;
        }

        /** All that lies beyond the last statement is the END. */
        int placeOf(int function, int i) {
            return function * PLACES + (i < lengths[function] ? i : lengths[function]);
        }

        /** The table's function for a number, or NONE if the table is empty. */
        int entryFor(int number) {
            return entryCount > 0 ? entries[Math.floorMod(number, entryCount)] : NONE;
        }

        private static int startOf(int function, int i) {
            return (function * MOST_STATEMENTS + i) * FIELDS;
        }
    }

    /** What all registers have on the way to a place. */
    private static final class Row {
        final boolean[] any;
        final int[] numbers;

        Row() {
            any = new boolean[REGISTERS];
            numbers = new int[REGISTERS];
        }

        void putNumber(int register, int number) {
            any[register] = false;
            numbers[register] = number;
        }

        void putAny(int register) {
            any[register] = true;
            numbers[register] = 0;
        }
    }

    /** What is known at each place of each function. */
    private static final class Known {
        final boolean[] comeTo;
        private final boolean[] any;
        private final int[] numbers;

        Known() {
            comeTo = new boolean[ALL_FUNCTIONS * PLACES];
            any = new boolean[ALL_FUNCTIONS * PLACES * REGISTERS];
            numbers = new int[ALL_FUNCTIONS * PLACES * REGISTERS];
        }

        void forget() {
            for (int place = 0; place < comeTo.length; place++) {
                comeTo[place] = false;
            }
        }

        /** Joins what comes from one more side; says whether the place has changed by it. */
        boolean join(int place, Row row) {
            boolean isFirst = !comeTo[place];
            boolean changed = isFirst;
            comeTo[place] = true;
            for (int r = 0; r < REGISTERS; r++) {
                int at = place * REGISTERS + r;
                if (isFirst) {
                    any[at] = row.any[r];
                    numbers[at] = row.numbers[r];
                } else if (!any[at] && (row.any[r] || row.numbers[r] != numbers[at])) {
                    any[at] = true;
                    changed = true;
                }
            }
            return changed;
        }

        /** Says it for a register and for an operand: both have it in their lowest bits. */
        boolean hasNumber(int place, int operand) {
            int register = operand & 7;
            return register >= REGISTERS || !any[place * REGISTERS + register];
        }

        int numberOf(int place, int operand) {
            int register = operand & 7;
            return register < REGISTERS ? numbers[place * REGISTERS + register] : operand >> 3;
        }

        boolean isReached(int function) {
            return comeTo[function * PLACES];
        }

        int countReached(int functionCount) {
            int count = 0;
            for (int f = 0; f < functionCount; f++) {
                if (isReached(f)) {
                    count++;
                }
            }
            return count;
        }
    }

    /** Finds the least that is so, by going on from each place whenever it has changed. */
    private static final class Finder {
        // A place changes when it is first come to, and once for each register that becomes ANY.
        private static final int MOST_CHANGES = ALL_FUNCTIONS * PLACES * (REGISTERS + 1);

        private final Program program;
        private final Known known;
        private final Row row;
        private final boolean[] isWaiting;
        private final int[] waiting;
        private int waitingCount;

        Finder(Program program, Known known) {
            this.program = program;
            this.known = known;
            row = new Row();
            isWaiting = new boolean[ALL_FUNCTIONS * PLACES];
            waiting = new int[ALL_FUNCTIONS * PLACES];
            waitingCount = 0;
        }

        void find() {
            known.forget();
            for (int r = 0; r < REGISTERS; r++) {
                row.putNumber(r, 0);
            }
            arriveAt(MAIN, 0);
            for (int change = 0; change < MOST_CHANGES && waitingCount > 0; change++) {
                waitingCount--;
                int place = waiting[waitingCount];
                isWaiting[place] = false;
                goOnFrom(place / PLACES, place % PLACES);
            }
        }

        private void arriveAt(int function, int i) {
            int place = program.placeOf(function, i);
            if (known.join(place, row) && !isWaiting[place]) {
                isWaiting[place] = true;
                waiting[waitingCount] = place;
                waitingCount++;
            }
        }

        private void goOnFrom(int function, int i) {
            if (i >= program.lengths[function]) {
                return;
            }
            int operation = program.fieldOf(function, i, OPERATION);
            if (operation == CALL || operation == TABLE_CALL) {
                goIntoCalls(function, i, operation);
            }
            takeRegisters(program.placeOf(function, i));
            switch (operation) {
                case RETURN:
                    break;
                case GO:
                    arriveAt(function, program.fieldOf(function, i, X));
                    break;
                case IF:
                    goOnFromIf(function, i);
                    break;
                case OUTPUT:
                case NOTHING:
                    arriveAt(function, i + 1);
                    break;
                default:
                    putResult(function, i, operation);
                    arriveAt(function, i + 1);
                    break;
            }
        }

        private void takeRegisters(int place) {
            for (int r = 0; r < REGISTERS; r++) {
                takeOperand(r, place, r);
            }
        }

        private void takeOperand(int register, int place, int operand) {
            if (known.hasNumber(place, operand)) {
                row.putNumber(register, known.numberOf(place, operand));
            } else {
                row.putAny(register);
            }
        }

        private void goOnFromIf(int function, int i) {
            int place = program.placeOf(function, i);
            int a = program.fieldOf(function, i, A);
            boolean isSettled = known.hasNumber(place, a);
            boolean isZero = isSettled && known.numberOf(place, a) == 0;
            if (!isZero) {
                arriveAt(function, program.fieldOf(function, i, X));
            }
            if (isZero || !isSettled) {
                arriveAt(function, i + 1);
            }
        }

        private void putResult(int function, int i, int operation) {
            int d = program.fieldOf(function, i, D);
            if (operation == TABLE_CALL && program.entryCount == 0) {
                row.putNumber(d, 0);
            } else if (operation > LESS) {
                row.putAny(d);
            } else {
                putComputed(function, i, operation);
            }
        }

        private void putComputed(int function, int i, int operation) {
            int d = program.fieldOf(function, i, D);
            int place = program.placeOf(function, i);
            int a = program.fieldOf(function, i, A);
            // A MOVE does not use B, which may be anything: A twice does no harm there.
            int b = operation == MOVE ? a : program.fieldOf(function, i, B);
            row.putAny(d);
            if (known.hasNumber(place, a) && known.hasNumber(place, b)) {
                int result = compute(operation, known.numberOf(place, a), known.numberOf(place, b));
                if (result >= NUMBERS_LEAST && result <= NUMBERS_MOST) {
                    row.putNumber(d, result);
                }
            }
        }

        private void goIntoCalls(int function, int i, int operation) {
            int x = program.fieldOf(function, i, X);
            if (operation == CALL) {
                goInto(function, i, x);
                return;
            }
            int place = program.placeOf(function, i);
            if (!known.hasNumber(place, x)) {
                for (int e = 0; e < program.entryCount; e++) {
                    goInto(function, i, program.entries[e]);
                }
            } else if (program.entryCount > 0) {
                goInto(function, i, program.entryFor(known.numberOf(place, x)));
            }
        }

        private void goInto(int function, int i, int called) {
            int place = program.placeOf(function, i);
            for (int r = 0; r < REGISTERS; r++) {
                if (r < program.parameterCounts[called]) {
                    takeOperand(r, place, program.fieldOf(function, i, A + r));
                } else {
                    row.putNumber(r, 0);
                }
            }
            arriveAt(called, 0);
        }
    }

    /** Makes the copies, and of what is known in the end the new program. */
    private static final class Maker {
        private final Program program;
        private final Known known;

        Maker(Program program, Known known) {
            this.program = program;
            this.known = known;
        }

        /** Says no if there is no special call; else what is known has to be found anew. */
        boolean copyForSpecialCall() {
            int special = firstSpecialCall();
            if (special == NONE) {
                return false;
            }
            copyFor(special / MOST_STATEMENTS, special % MOST_STATEMENTS);
            return true;
        }

        private int firstSpecialCall() {
            for (int f = 0; f < program.functionCount; f++) {
                for (int i = 0; i < program.lengths[f]; i++) {
                    if (isCallComeTo(f, i) && isSpecial(f, i)) {
                        return f * MOST_STATEMENTS + i;
                    }
                }
            }
            return NONE;
        }

        private boolean isCallComeTo(int function, int i) {
            return program.fieldOf(function, i, OPERATION) == CALL
                    && known.comeTo[program.placeOf(function, i)];
        }

        private boolean isSpecial(int function, int i) {
            int place = program.placeOf(function, i);
            int called = program.fieldOf(function, i, X);
            int firstPlace = program.placeOf(called, 0);
            for (int p = 0; p < program.parameterCounts[called]; p++) {
                if (!known.hasNumber(firstPlace, p)
                        && known.hasNumber(place, program.fieldOf(function, i, A + p))) {
                    return true;
                }
            }
            return false;
        }

        private void copyFor(int function, int i) {
            int called = program.fieldOf(function, i, X);
            // The copy's own calls are not come to yet, so they stay as they are in the original.
            int copy = program.addCopyOf(called);
            for (int f = 0; f < copy; f++) {
                for (int j = 0; j < program.lengths[f]; j++) {
                    if (isCallComeTo(f, j) && program.fieldOf(f, j, X) == called
                            && sayTheSame(function, i, f, j)) {
                        program.putField(f, j, X, copy);
                    }
                }
            }
        }

        /** Compares two calls of one function, of which the first may go to a copy already. */
        private boolean sayTheSame(int function, int i, int otherFunction, int j) {
            int called = program.fieldOf(otherFunction, j, X);
            int place = program.placeOf(function, i);
            int otherPlace = program.placeOf(otherFunction, j);
            for (int p = 0; p < program.parameterCounts[called]; p++) {
                int operand = program.fieldOf(function, i, A + p);
                int other = program.fieldOf(otherFunction, j, A + p);
                boolean hasNumber = known.hasNumber(place, operand);
                if (hasNumber != known.hasNumber(otherPlace, other)) {
                    return false;
                }
                if (hasNumber
                        && known.numberOf(place, operand) != known.numberOf(otherPlace, other)) {
                    return false;
                }
            }
            return true;
        }

        void makeNewProgram() {
            for (int f = 0; f < program.functionCount; f++) {
                if (known.isReached(f)) {
                    for (int i = 0; i < program.lengths[f]; i++) {
                        renew(f, i);
                    }
                } else {
                    program.lengths[f] = 0;
                }
            }
        }

        private void renew(int function, int i) {
            if (!known.comeTo[program.placeOf(function, i)]) {
                program.putField(function, i, OPERATION, NOTHING);
                return;
            }
            int operation = program.fieldOf(function, i, OPERATION);
            for (int k = 0; k < OPERANDS_USED[operation]; k++) {
                renewOperand(function, i, A + k);
            }
            if (operation == IF) {
                renewIf(function, i);
            } else if (operation == TABLE_CALL) {
                renewOperand(function, i, X);
                renewTableCall(function, i);
            }
        }

        private void renewOperand(int function, int i, int what) {
            int place = program.placeOf(function, i);
            int operand = program.fieldOf(function, i, what);
            if (known.hasNumber(place, operand)) {
                program.putField(function, i, what, operandOf(known.numberOf(place, operand)));
            }
        }

        private void renewIf(int function, int i) {
            int a = program.fieldOf(function, i, A);
            if (isNumber(a)) {
                program.putField(function, i, OPERATION, a >> 3 != 0 ? GO : NOTHING);
            }
        }

        private void renewTableCall(int function, int i) {
            int x = program.fieldOf(function, i, X);
            if (!isNumber(x)) {
                return;
            }
            int called = program.entryFor(x >> 3);
            if (called == NONE) {
                program.putField(function, i, OPERATION, MOVE);
                program.putField(function, i, A, operandOf(0));
            } else {
                program.putField(function, i, OPERATION, CALL);
                program.putField(function, i, X, called);
            }
        }
    }

    /** What the latest run did. */
    private static final class Tally {
        int doneCount;
        int outputCount;
        final int[] outputValues;
        final int[] callCounts;
        final int[] latestValues;
        final boolean[] differing;

        Tally() {
            doneCount = 0;
            outputCount = 0;
            outputValues = new int[MOST_OUTPUTS];
            callCounts = new int[ALL_FUNCTIONS];
            latestValues = new int[ALL_FUNCTIONS * MOST_PARAMETERS];
            differing = new boolean[ALL_FUNCTIONS * MOST_PARAMETERS];
        }

        void begin() {
            doneCount = 0;
            outputCount = 0;
            for (int f = 0; f < ALL_FUNCTIONS; f++) {
                callCounts[f] = 0;
            }
            for (int at = 0; at < latestValues.length; at++) {
                latestValues[at] = 0;
                differing[at] = false;
            }
        }

        boolean addOutput(int value) {
            if (outputCount >= MOST_OUTPUTS) {
                return false;
            }
            outputValues[outputCount] = value;
            outputCount++;
            return true;
        }

        /** Parameters that a function does not have are 0 in the registers, and so here. */
        void addCall(int function, int[] registers, int firstRegister) {
            for (int p = 0; p < MOST_PARAMETERS; p++) {
                int at = function * MOST_PARAMETERS + p;
                int value = registers[firstRegister + p];
                if (callCounts[function] > 0 && latestValues[at] != value) {
                    differing[at] = true;
                }
                latestValues[at] = value;
            }
            callCounts[function]++;
        }
    }

    /** Runs a program, with the calls that are open in rows of their own. */
    private static final class Machine {
        // Each round does a statement or ends a call, and each call but main's is a statement.
        private static final int MOST_ROUNDS = 2 * MOST_DONE + 2;

        private Program program;
        private final Tally tally;
        private final int[] inputs;
        private int inputCount;
        private int inputsRead;
        private final int[] openFunctions;
        private final int[] openStatements;
        private final int[] registers;
        private int openCount;

        Machine(Program program, Tally tally) {
            this.program = program;
            this.tally = tally;
            inputs = new int[MOST_INPUTS];
            inputCount = 0;
            inputsRead = 0;
            openFunctions = new int[MOST_OPEN_CALLS];
            openStatements = new int[MOST_OPEN_CALLS];
            registers = new int[MOST_OPEN_CALLS * REGISTERS];
            openCount = 0;
        }

        int addInput(int value) {
            if (inputCount >= MOST_INPUTS) {
                return -1;
            }
            inputs[inputCount] = value;
            inputCount++;
            return inputCount;
        }

        void dropInputs() {
            inputCount = 0;
        }

        int execute(Program toRun, int statements) {
            program = toRun;
            begin();
            for (int round = 0; round < MOST_ROUNDS && openCount > 0; round++) {
                int top = openCount - 1;
                int function = openFunctions[top];
                int i = openStatements[top];
                if (i >= program.lengths[function]) {
                    leaveCall(0);
                } else if (tally.doneCount >= statements) {
                    return 0;
                } else if (!doStatement(function, i, top)) {
                    return 2;
                } else {
                    tally.doneCount++;
                }
            }
            return 1;
        }

        private void begin() {
            tally.begin();
            inputsRead = 0;
            openFunctions[0] = MAIN;
            openStatements[0] = 0;
            for (int r = 0; r < REGISTERS; r++) {
                registers[r] = 0;
            }
            openCount = 1;
            tally.addCall(MAIN, registers, 0);
        }

        /** Says no, with nothing done, if there would be a call too deep or an output too many. */
        private boolean doStatement(int function, int i, int top) {
            int operation = program.fieldOf(function, i, OPERATION);
            int a = valueOf(top, program.fieldOf(function, i, A));
            switch (operation) {
                case INPUT:
                    return finish(function, i, top, nextInput());
                case OUTPUT:
                    openStatements[top] = i + 1;
                    return tally.addOutput(a);
                case IF:
                    openStatements[top] = a != 0 ? program.fieldOf(function, i, X) : i + 1;
                    return true;
                case GO:
                    openStatements[top] = program.fieldOf(function, i, X);
                    return true;
                case RETURN:
                    leaveCall(a);
                    return true;
                case CALL:
                    return enterCall(function, i, top, program.fieldOf(function, i, X));
                case TABLE_CALL:
                    return doTableCall(function, i, top);
                case NOTHING:
                    openStatements[top] = i + 1;
                    return true;
                default:
                    int b = valueOf(top, program.fieldOf(function, i, B));
                    return finish(function, i, top, compute(operation, a, b));
            }
        }

        private int valueOf(int top, int operand) {
            int register = operand & 7;
            return register < REGISTERS ? registers[top * REGISTERS + register] : operand >> 3;
        }

        private boolean finish(int function, int i, int top, int result) {
            registers[top * REGISTERS + program.fieldOf(function, i, D)] = result;
            openStatements[top] = i + 1;
            return true;
        }

        private int nextInput() {
            if (inputsRead >= inputCount) {
                return 0;
            }
            int value = inputs[inputsRead];
            inputsRead++;
            return value;
        }

        private boolean doTableCall(int function, int i, int top) {
            int called = program.entryFor(valueOf(top, program.fieldOf(function, i, X)));
            if (called == NONE) {
                return finish(function, i, top, 0);
            }
            return enterCall(function, i, top, called);
        }

        private boolean enterCall(int function, int i, int top, int called) {
            if (openCount >= MOST_OPEN_CALLS) {
                return false;
            }
            int firstRegister = openCount * REGISTERS;
            for (int r = 0; r < REGISTERS; r++) {
                registers[firstRegister + r] = r < program.parameterCounts[called]
                        ? valueOf(top, program.fieldOf(function, i, A + r)) : 0;
            }
            openFunctions[openCount] = called;
            openStatements[openCount] = 0;
            openCount++;
            tally.addCall(called, registers, firstRegister);
            return true;
        }

        /** The caller still stands at its call, and is finished with it here. */
        private void leaveCall(int result) {
            openCount--;
            if (openCount > 0) {
                int top = openCount - 1;
                finish(openFunctions[top], openStatements[top], top, result);
            }
        }
    }
}
