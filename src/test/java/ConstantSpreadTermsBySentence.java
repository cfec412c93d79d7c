/** Each sentence of "What it is" and "Terms", with the boundaries that it names. */
public final class ConstantSpreadTermsBySentence extends SentenceTest {
    public static void main(String[] args) {
        runAll(ConstantSpreadTermsBySentence.class, "What it is", "Terms");
    }

    @Sentence(of = "What it is", says = "Finds which registers of a whole program's functions have the"
            + " same number each time, also through calls and a table of functions, copies functions for"
            + " calls that say more than others, puts the numbers where they are used, and takes away"
            + " what is never come to; and runs the program of before and the one that it makes.")
    private static void whatItIs() {
        ConstantSpread s = program(1, 0);
        in(s, 0, 0);
        call(s, 0, 1, 1, 0);
        call(s, 0, 2, 1, n(5));
        s.table(2);
        tableCall(s, 0, 3, n(9));
        out(s, 0, 1);
        out(s, 0, 2);
        out(s, 0, 3);
        op(s, 1, ADD, 1, 0, n(1));
        ret(s, 1, 1);
        ret(s, 1, 0);
        ret(s, 2, n(-1));
        s.input(20);
        due("analyse(6)", s.analyse(6), 4);
        has(s, 3, 1, 1, 6);
        field(s, 3, 1, A, n(6));
        field(s, 3, 2, OP, NIL);
        field(s, 0, 3, OP, CALL);
        due("run(false, 99)", s.run(false, 99), 1);
        outputsAre(s, 21, 6, -1);
        due("run(true, 99)", s.run(true, 99), 1);
        outputsAre(s, 21, 6, -1);
    }

    @Sentence(of = "What it is", says = "An object is used for at most 512 calls after it has been made;"
            + " what later calls answer is free.")
    private static void the512thCallStillAnswers() {
        ConstantSpread s = program(1, 1, 1, 1, 1);
        int calls = 6;
        for (int f = 0; f < 6; f++) {
            for (int i = 0; i < 16; i++, calls++) {
                s.code(f, w(i < 8 ? MOVE : i == 8 ? CALL : OUT, i % 6), 5, n(f * 16 + i), 0, 7);
            }
        }
        for (int i = 0; i < 12; i++, calls++) {
            s.input(i);
        }
        for (; calls + 3 < 512; calls += 2) {
            s.analyse(6);
            s.run(calls % 4 == 0, 3000);
        }
        for (; calls < 510; calls++) {
            s.empty();
        }
        due("the 511th call, run(false, 3000)", s.run(false, 3000), 2);
        due("the 512th call, calls(5)", s.calls(5), 10);
    }

    @Sentence(of = "Terms", says = "FUNCTIONS 0, 1, .. (at most 6; 0 is MAIN, without parameters)")
    private static void functionsAreAtMost6() {
        ConstantSpread s = new ConstantSpread();
        threw("main with a parameter", IAE, () -> s.function(1));
        due("main", s.function(0), 0);
        for (int f = 1; f < 6; f++) {
            due("function " + f, s.function(1), f);
            call(s, 0, 0, f, n(f));
            ret(s, f, n(f * 10));
            out(s, 0, 0);
        }
        threw("a seventh", ISE, () -> s.function(1));
        due("all are reached", s.analyse(0), 6);
        s.run(false, 99);
        outputsAre(s, 10, 20, 30, 40, 50);
        due("main was called", s.calls(0), 1);
        due("the last one was called", s.calls(5), 1);
    }

    @Sentence(of = "Terms", says = "have 0 to 3 PARAMETERS")
    private static void parametersAre0To3() {
        ConstantSpread s = program(0, 1, 2, 3);
        for (int f = 1; f <= 4; f++) {
            call(s, 0, 0, f, n(11), n(12), n(13));
        }
        s.run(false, 99);
        s.analyse(0);
        for (int f = 1; f <= 4; f++) {
            for (int p = 0; p < 3; p++) {
                due("latest(" + f + ", " + p + ")", s.latest(f, p), p < f - 1 ? 11 + p : 0);
                has(s, f, 0, p, p < f - 1 ? 11 + p : 0);
            }
        }
    }

    @Sentence(of = "Terms", says = "and at most 16 STATEMENTS 0, 1, ..;")
    private static void statementsAreAtMost16() {
        ConstantSpread s = program(0);
        for (int f = 1; f >= 0; f--) {
            int function = f;
            for (int i = 0; i < 16; i++) {
                due("statement", out(s, f, n(f * 100 + i)), i);
            }
            threw("a 17th", ISE, () -> nil(s, function));
        }
        s.analyse(0);
        has(s, 0, 15, 0, 0);
        field(s, 0, 15, A, n(15));
        due("run(true, 99)", s.run(true, 99), 1);
        due("done()", s.done(), 16);
        outputsAre(s, 0, 1, 2, 3, 4, 5, 6, 7, 8, 9, 10, 11, 12, 13, 14, 15);
    }

    @Sentence(of = "Terms", says = "there are REGISTERS 0 .. 5, ints, of each call its own.")
    private static void registersAreOfEachCallItsOwn() {
        ConstantSpread s = program(1);
        in(s, 0, 0);
        in(s, 0, 5);
        move(s, 0, 1, n(1));
        call(s, 0, 2, 1, n(2));
        for (int r = 0; r < 6; r++) {
            out(s, 0, r);
        }
        onlyIf(s, 1, 0, 2);
        ret(s, 1, n(9));
        op(s, 1, SUB, 0, 0, n(1));
        for (int r = 1; r < 6; r++) {
            move(s, 1, r, 0);
        }
        call(s, 1, 5, 1, 0);
        out(s, 1, 0);
        out(s, 1, 4);
        ret(s, 1, 5);
        s.input(MIN);
        s.input(MAX);
        due("run(false, 99)", s.run(false, 99), 1);
        outputsAre(s, 0, 0, 1, 1, MIN, 1, 9, 0, 0, MAX);
    }

    @Sentence(of = "Terms", says = "An OPERAND is an int whose lowest three bits are 0 .. 5: that register;")
    private static void operandsThatAreRegisters() {
        for (int r = 0; r < 6; r++) {
            ConstantSpread s = program();
            move(s, 0, r, n(70 + r));
            for (int high : new int[] {0, 8, 800, -8, MIN}) {
                out(s, 0, high + r);
            }
            s.analyse(0);
            for (int i = 1; i < 6; i++) {
                field(s, 0, i, A, n(70 + r));
            }
            s.run(false, 99);
            outputsAre(s, 70 + r, 70 + r, 70 + r, 70 + r, 70 + r);
        }
        ConstantSpread t = program();
        for (int none : new int[] {6, 14, -2, MAX - 1, MIN + 6}) {
            threw("operand " + none, IAE, () -> out(t, 0, none));
        }
    }

    @Sentence(of = "Terms", says = "or 7: the NUMBER that the others are (operand >> 3).")
    private static void operandsThatAreNumbers() {
        ConstantSpread s = program();
        int[] operands = {7, 15, -1, MAX, MIN + 7};
        for (int i = 0; i < operands.length; i++) {
            move(s, 0, i, operands[i]);
            out(s, 0, operands[i]);
        }
        s.run(false, 99);
        outputsAre(s, 0, 1, -1, MOST, LEAST);
        s.analyse(0);
        has(s, 0, 10, 0, 0);
        has(s, 0, 10, 1, 1);
        has(s, 0, 10, 2, -1);
        has(s, 0, 10, 3, MOST);
        has(s, 0, 10, 4, LEAST);
    }

    @Sentence(of = "Terms", says = "A statement has an OPERATION, a register D, X, and operands A, B, C:")
    private static void statementsHaveSixFields() {
        ConstantSpread s = program();
        s.code(0, w(ADD, 5), -77, n(1), n(2), 14);
        s.code(0, w(NIL, 0), MIN, MAX, -2, 6);
        s.analyse(0);
        fields(s, 0, 0, ADD, 5, -77, n(1), n(2), 14);
        fields(s, 0, 1, NIL, 0, MIN, MAX, -2, 6);
    }

    @Sentence(of = "Terms", says = "0 MOVE: D becomes A.")
    private static void moves() {
        ConstantSpread s = program();
        move(s, 0, 5, n(LEAST));
        move(s, 0, 0, 5);
        move(s, 0, 0, 0);
        out(s, 0, 0);
        s.code(0, w(MOVE, 0), 3, n(4), n(9), n(9));
        out(s, 0, 0);
        out(s, 0, 5);
        s.run(false, 99);
        outputsAre(s, LEAST, 4, LEAST);
    }

    @Sentence(of = "Terms", says = "1 A + B, 2 A - B, 3 A * B (they wrap),")
    private static void arithmeticWraps() {
        int[][] rows = {{ADD, MAX, 1, MIN}, {ADD, MIN, -1, MAX}, {ADD, MIN, MIN, 0}, {ADD, 3, 4, 7},
            {SUB, MIN, 1, MAX}, {SUB, MAX, -1, MIN}, {SUB, 0, MIN, MIN}, {SUB, 3, 4, -1},
            {MUL, MIN, -1, MIN}, {MUL, 65536, 65536, 0}, {MUL, MAX, MAX, 1}, {MUL, 65536, 32768, MIN},
            {MUL, -3, 4, -12}};
        for (int[] row : rows) {
            ConstantSpread s = program();
            in(s, 0, 1);
            in(s, 0, 2);
            op(s, 0, row[0], 1, 1, 2);
            out(s, 0, 1);
            s.input(row[1]);
            s.input(row[2]);
            s.run(false, 4);
            outputsAre(s, row[3]);
        }
    }

    @Sentence(of = "Terms", says = "4 1 if A is less than B, else 0: D becomes that.")
    private static void lessThan() {
        int[][] rows = {{MIN, MAX, 1}, {MAX, MIN, 0}, {MIN, MIN, 0}, {MAX, MAX, 0}, {MIN, 1, 1},
            {-1, 0, 1}, {0, -1, 0}, {0, 0, 0}, {MAX - 1, MAX, 1}, {MAX, -1, 0}};
        for (int[] row : rows) {
            ConstantSpread s = program();
            move(s, 0, 3, n(7));
            in(s, 0, 1);
            in(s, 0, 2);
            op(s, 0, LESS, 3, 1, 2);
            out(s, 0, 3);
            s.input(row[0]);
            s.input(row[1]);
            s.run(false, 5);
            outputsAre(s, row[2]);
        }
    }

    @Sentence(of = "Terms", says = "5 INPUT: D becomes the next input (0 when there is none).")
    private static void inputsAndNone() {
        ConstantSpread s = program();
        move(s, 0, 5, n(3));
        in(s, 0, 5);
        out(s, 0, 5);
        go(s, 0, 1);
        s.run(false, 3);
        outputsAre(s, 0);
        s.input(MIN);
        s.run(false, 6);
        outputsAre(s, MIN, 0);
        for (int i = 2; i <= 12; i++) {
            s.input(-i);
        }
        s.run(false, 1 + 14 * 3);
        outputsAre(s, MIN, -2, -3, -4, -5, -6, -7, -8, -9, -10, -11, -12, 0, 0);
        s.run(false, 3);
        outputsAre(s, MIN);
    }

    @Sentence(of = "Terms", says = "6 OUTPUT A.")
    private static void putsOut() {
        ConstantSpread s = program();
        in(s, 0, 2);
        s.code(0, w(OUT, 2), 5, 2, n(1), n(1));
        s.code(0, w(OUT, 2), 5, 2, n(1), n(1));
        out(s, 0, n(-1));
        s.input(MAX);
        s.run(false, 99);
        outputsAre(s, MAX, MAX, -1);
    }

    @Sentence(of = "Terms", says = "7 IF: if A is not 0, statement X comes next.")
    private static void ifs() {
        for (int value : new int[] {0, 1, -1, MIN, MAX, 8, 256}) {
            ConstantSpread s = program();
            in(s, 0, 0);
            onlyIf(s, 0, 0, 3);
            out(s, 0, n(1));
            out(s, 0, n(2));
            s.input(value);
            s.run(false, 99);
            if (value == 0) {
                outputsAre(s, 1, 2);
            } else {
                outputsAre(s, 2);
            }
        }
        ConstantSpread t = program();
        nil(t, 0);
        onlyIf(t, 0, n(1), 1);
        due("an IF that goes to itself", t.run(false, 100), 0);
        due("done()", t.done(), 100);
        ConstantSpread u = program();
        onlyIf(u, 0, n(1), 16);
        out(u, 0, n(3));
        due("an IF that goes to the END", u.run(false, 1), 1);
        due("outputs()", u.outputs(), 0);
    }

    @Sentence(of = "Terms", says = "8 GO: statement X comes next.")
    private static void goes() {
        ConstantSpread s = program();
        out(s, 0, n(1));
        go(s, 0, 3);
        out(s, 0, n(2));
        out(s, 0, n(3));
        go(s, 0, 0);
        s.run(false, 8);
        outputsAre(s, 1, 3, 1, 3);
        for (int x : new int[] {2, 3, 16}) {
            ConstantSpread t = program();
            go(t, 0, x);
            out(t, 0, n(2));
            due("GO to the END", t.run(false, 1), 1);
            due("outputs()", t.outputs(), 0);
        }
        ConstantSpread u = program();
        go(u, 0, 0);
        due("GO to itself", u.run(false, 3000), 0);
    }

    @Sentence(of = "Terms", says = "9 RETURN A.")
    private static void returns() {
        ConstantSpread s = program(1);
        in(s, 0, 0);
        call(s, 0, 1, 1, 0);
        out(s, 0, 1);
        ret(s, 0, 1);
        out(s, 0, n(99));
        ret(s, 1, 0);
        out(s, 1, n(98));
        s.input(MIN);
        due("run(false, 99)", s.run(false, 99), 1);
        outputsAre(s, MIN);
        due("done()", s.done(), 5);
    }

    @Sentence(of = "Terms", says = "10 CALL: D becomes what function X returns, called with A, B, C (as many"
            + " as it has parameters).")
    private static void calls() {
        for (int parameters = 0; parameters <= 3; parameters++) {
            ConstantSpread s = program(0, parameters);
            move(s, 0, 1, n(6));
            call(s, 0, 1, 2, n(5), 1, n(-7));
            out(s, 0, 1);
            for (int r = 0; r < 4; r++) {
                out(s, 2, r);
            }
            ret(s, 2, n(MOST));
            s.run(false, 99);
            outputsAre(s, parameters > 0 ? 5 : 0, parameters > 1 ? 6 : 0, parameters > 2 ? -7 : 0, 0, MOST);
            due("calls(1)", s.calls(1), 0);
            due("calls(2)", s.calls(2), 1);
        }
    }

    @Sentence(of = "Terms", says = "11 TABLE CALL: X is an operand, and the function is entry X modulo the"
            + " table's size (0 or above) of the TABLE;")
    private static void tableCallsModuloTheSize() {
        for (int size = 1; size <= 4; size++) {
            ConstantSpread s = program(1, 1, 1, 1);
            in(s, 0, 0);
            tableCall(s, 0, 1, 0, n(3));
            out(s, 0, 1);
            for (int e = 0; e < size; e++) {
                ret(s, 4 - e, n(e));
                s.table(4 - e);
            }
            for (int x : new int[] {0, 1, 3, 4, 5, -1, -2, -3, -4, -5, MIN, MAX}) {
                s.empty();
                s.input(x);
                s.run(false, 99);
                outputsAre(s, ((x % size) + size) % size);
            }
        }
        ConstantSpread t = program(0, 0, 0);
        for (int e = 0; e < 3; e++) {
            ret(t, e + 1, n(e));
            t.table(e + 1);
        }
        for (int x : new int[] {-4, 5, LEAST, MOST}) {
            tableCall(t, 0, 1, n(x));
            out(t, 0, 1);
        }
        t.run(false, 99);
        // 2^28 leaves 1 when it is divided by 3.
        outputsAre(t, 2, 2, 2, 0);
    }

    @Sentence(of = "Terms", says = "nothing is called, and D becomes 0, if that is empty.")
    private static void tableCallOfAnEmptyTable() {
        ConstantSpread s = program(1);
        move(s, 0, 4, n(8));
        tableCall(s, 0, 4, n(0), n(1));
        out(s, 0, 4);
        in(s, 0, 4);
        tableCall(s, 0, 4, 4, n(1));
        out(s, 0, 4);
        s.input(MIN);
        due("run(false, 99)", s.run(false, 99), 1);
        outputsAre(s, 0, 0);
        due("calls(0)", s.calls(0), 1);
        due("calls(1)", s.calls(1), 0);
        due("done()", s.done(), 6);
    }

    @Sentence(of = "Terms", says = "12 NOTHING.")
    private static void nothing() {
        ConstantSpread s = program();
        move(s, 0, 2, n(8));
        s.code(0, w(NIL, 2), 0, n(5), n(5), n(5));
        out(s, 0, 2);
        due("run(false, 2)", s.run(false, 2), 0);
        due("outputs()", s.outputs(), 0);
        due("run(false, 3)", s.run(false, 3), 1);
        due("done()", s.done(), 3);
        outputsAre(s, 8);
    }

    @Sentence(of = "Terms", says = "A call begins at statement 0 with its parameters in the first registers,"
            + " 0 in the others.")
    private static void callsBeginWith0InTheOthers() {
        for (int parameters = 0; parameters <= 3; parameters++) {
            ConstantSpread s = program(parameters);
            call(s, 0, 0, 1, n(21), n(22), n(23));
            call(s, 0, 0, 1, n(31), n(32), n(33));
            for (int r = 0; r < 6; r++) {
                out(s, 1, r);
            }
            for (int r = 0; r < 6; r++) {
                move(s, 1, r, n(5));
            }
            s.run(false, 99);
            int p = parameters;
            outputsAre(s, p > 0 ? 21 : 0, p > 1 ? 22 : 0, p > 2 ? 23 : 0, 0, 0, 0,
                    p > 0 ? 31 : 0, p > 1 ? 32 : 0, p > 2 ? 33 : 0, 0, 0, 0);
        }
    }

    @Sentence(of = "Terms", says = "Where no statement is (behind the last one) 0 is returned.")
    private static void endsReturn0() {
        ConstantSpread s = program(1, 0, 0);
        for (int f = 1; f <= 3; f++) {
            move(s, 0, 1, n(44));
            call(s, 0, 1, f, n(4));
            out(s, 0, 1);
        }
        move(s, 1, 0, n(5));
        move(s, 3, 0, n(5));
        go(s, 3, 16);
        due("run(false, 99)", s.run(false, 99), 1);
        outputsAre(s, 0, 0, 0);
        due("done()", s.done(), 12);
    }

    @Sentence(of = "Terms", says = "The program is a call of main.")
    private static void theProgramIsACallOfMain() {
        ConstantSpread s = program(0);
        in(s, 0, 0);
        out(s, 0, 5);
        onlyIf(s, 0, 0, 5);
        out(s, 0, n(1));
        ret(s, 0, n(7));
        call(s, 0, 0, 0);
        out(s, 0, 0);
        for (int r = 0; r < 6; r++) {
            move(s, 0, r, n(3));
        }
        out(s, 1, n(99));
        s.input(1);
        for (int round = 0; round < 2; round++) {
            due("run(false, 99)", s.run(false, 99), 1);
            outputsAre(s, 0, 0, 1, 7);
            due("calls(0)", s.calls(0), 2);
            due("calls(1)", s.calls(1), 0);
        }
    }

    @Sentence(of = "Terms", says = "WHAT IS KNOWN. Each place of a function (a statement, or the END behind"
            + " the last one; all X beyond are that) is COME TO or not;")
    private static void placesAndTheEnd() {
        for (int x : new int[] {3, 4, 16}) {
            ConstantSpread s = program(0, 0, 0);
            in(s, 0, 0);
            onlyIf(s, 0, 0, x);
            move(s, 0, 1, n(5));
            call(s, 1, 0, 2);
            ret(s, 1, 7);
            s.analyse(0);
            for (int place = 3; place <= 16; place++) {
                isAny(s, 0, place, 1);
                has(s, 0, place, 2, 0);
            }
            notComeTo(s, 1, 0);
            notComeTo(s, 2, 0);
        }
        ConstantSpread t = program(0, 0);
        for (int i = 0; i < 15; i++) {
            nil(t, 0);
        }
        move(t, 0, 0, n(1));
        call(t, 1, 0, 1);
        t.analyse(0);
        has(t, 0, 15, 0, 0);
        has(t, 0, 16, 0, 1);
        notComeTo(t, 2, 0);
    }

    @Sentence(of = "Terms", says = "if it is, each register has a number there, or ANY.")
    private static void eachRegisterHasANumberOrAny() {
        ConstantSpread s = program();
        in(s, 0, 1);
        ret(s, 0, 7);
        s.analyse(0);
        for (int r = 0; r < 6; r++) {
            has(s, 0, 0, r, 0);
            due("kind(0, 1, " + r + ")", s.kind(0, 1, r), r == 1 ? 2 : 1);
        }
        notComeTo(s, 0, 2);
    }

    @Sentence(of = "Terms", says = "This is the least that is so (not come to is less than numbers, these"
            + " less than ANY):")
    private static void theLeastThatIsSo() {
        ConstantSpread s = program(2, 0);
        move(s, 0, 1, n(1));
        in(s, 0, 0);
        onlyIf(s, 0, 1, 4);
        move(s, 0, 1, n(2));
        onlyIf(s, 0, 0, 1);
        call(s, 0, 2, 1, n(6), 0);
        call(s, 1, 2, 1, 0, n(3));
        call(s, 2, 0, 2);
        due("a function that only itself calls is not reached", s.analyse(0), 2);
        has(s, 0, 1, 1, 1);
        notComeTo(s, 0, 3);
        has(s, 1, 0, 0, 6);
        isAny(s, 1, 0, 1);
        notComeTo(s, 2, 0);
    }

    /** In each of twelve functions ANY goes from register to register, one more each time around. */
    @Sentence(of = "Terms", says = "This is the least that is so")
    private static void theLeastOfManyRounds() {
        ConstantSpread s = program(1, 1, 1, 1, 1);
        in(s, 0, 0);
        for (int f = 1; f <= 5; f++) {
            call(s, 0, 0, f, 0);
        }
        for (int i = 1; i <= 6; i++) {
            call(s, 0, 0, i % 5 + 1, n(i));
        }
        for (int f = 1; f <= 5; f++) {
            for (int r = 5; r > 1; r--) {
                move(s, f, r, r - 1);
            }
            in(s, f, 1);
            for (int i = 5; i < 15; i++) {
                nil(s, f);
            }
            go(s, f, 0);
        }
        due("all and six copies", s.analyse(6), 12);
        for (int f = 1; f < 12; f++) {
            due("kind(" + f + ", 15, 0)", s.kind(f, 15, 0), f < 6 ? 2 : 1);
            for (int r = 1; r < 6; r++) {
                isAny(s, f, 0, r);
                isAny(s, f, 15, r);
            }
            notComeTo(s, f, 16);
        }
    }

    /** Many places of each function are left to go on from when the next function is come to. */
    @Sentence(of = "Terms", says = "This is the least that is so")
    private static void theLeastOfManyWays() {
        ConstantSpread s = program(1, 1, 1, 1, 1);
        for (int f = 0; f < 6; f++) {
            in(s, f, 0);
            for (int i = 1; i < 8; i++) {
                onlyIf(s, f, 0, 16 - i);
            }
            call(s, f, 1, f < 5 ? f + 1 : 5, 0);
            for (int i = 9; i < 16; i++) {
                ret(s, f, 7);
            }
        }
        due("all are reached", s.analyse(6), 6);
        for (int f = 0; f < 6; f++) {
            for (int place = 0; place < 16; place++) {
                due("kind(" + f + ", " + place + ", 2)", s.kind(f, place, 2), 1);
            }
            notComeTo(s, f, 16);
        }
    }

    @Sentence(of = "Terms", says = "main's first place is come to, all registers 0.")
    private static void mainsFirstPlace() {
        ConstantSpread s = program();
        s.analyse(0);
        for (int r = 0; r < 6; r++) {
            has(s, 0, 0, r, 0);
            has(s, 0, 16, r, 0);
        }
        move(s, 0, 5, n(1));
        call(s, 0, 0, 0, n(1), n(2), n(3));
        s.analyse(0);
        for (int r = 0; r < 6; r++) {
            has(s, 0, 0, r, 0);
        }
        go(s, 0, 0);
        s.analyse(0);
        isAny(s, 0, 0, 0);
        isAny(s, 0, 0, 5);
        has(s, 0, 0, 4, 0);
        ConstantSpread t = program();
        for (int r = 0; r < 6; r++) {
            op(t, 0, r < 3 ? MOVE : IN, r, n(9), 7);
        }
        for (int round = 0; round < 2; round++) {
            t.analyse(0);
            for (int r = 0; r < 6; r++) {
                has(t, 0, 0, r, 0);
            }
        }
    }

    @Sentence(of = "Terms", says = "A statement that is come to goes on to the next place (not GO, RETURN),"
            + " IF and GO to X;")
    private static void whereStatementsGoOn() {
        for (int operation = 0; operation <= 12; operation++) {
            ConstantSpread s = program();
            in(s, 0, 0);
            int x = operation == CALL ? 0 : 4;
            s.code(0, w(operation, 1), x, 0, 0, 0);
            ret(s, 0, 7);
            ret(s, 0, 7);
            nil(s, 0);
            s.analyse(0);
            boolean goesOn = operation != GO && operation != RET;
            boolean goesToX = operation == IF || operation == GO;
            due("next of " + operation, s.kind(0, 2, 5) != 0, goesOn);
            due("X of " + operation, s.kind(0, 4, 5) != 0, goesToX);
            notComeTo(s, 0, 3);
        }
        ConstantSpread t = program();
        ret(t, 0, 7);
        t.analyse(0);
        notComeTo(t, 0, 1);
    }

    @Sentence(of = "Terms", says = "but an IF whose A has a number only to where that leads.")
    private static void ifsWithANumber() {
        for (int number : new int[] {0, 1, -1, MOST, LEAST}) {
            for (int a : new int[] {2, n(number)}) {
                ConstantSpread s = program();
                move(s, 0, 2, n(number));
                onlyIf(s, 0, a, 4);
                ret(s, 0, 7);
                nil(s, 0);
                ret(s, 0, 7);
                s.analyse(0);
                due("next, of " + number, s.kind(0, 2, 0), number == 0 ? 1 : 0);
                due("X, of " + number, s.kind(0, 4, 0), number == 0 ? 0 : 1);
            }
        }
        ConstantSpread t = program();
        onlyIf(t, 0, n(1), 16);
        nil(t, 0);
        t.analyse(0);
        notComeTo(t, 0, 1);
        has(t, 0, 2, 0, 0);
    }

    @Sentence(of = "Terms", says = "There the registers are what the statement makes of them: D, where"
            + " operands with numbers give a number from -2^28 to 2^28 - 1, that; else,")
    private static void numbersFromTheLeastToTheMost() {
        int[][] numbers = {{ADD, MOST - 1, 1, MOST}, {ADD, LEAST + 1, -1, LEAST}, {SUB, LEAST + 1, 1, LEAST},
            {SUB, MOST - 1, -1, MOST}, {MUL, 1 << 27, -2, LEAST}, {MUL, LEAST, 1, LEAST},
            {MUL, MOST, 1, MOST}, {MUL, 1 << 27, 32, 0}, {MUL, 1 << 27, 33, 1 << 27},
            {MUL, LEAST, 17, LEAST}, {MUL, LEAST, 16, 0}, {LESS, LEAST, MOST, 1}, {LESS, MOST, LEAST, 0},
            {LESS, MOST, MOST, 0}, {MOVE, MOST, 0, MOST}, {MOVE, LEAST, 0, LEAST}};
        for (int[] row : numbers) {
            has(computed(row), 0, 1, 3, row[3]);
            has(computed(row), 0, 4, 3, row[3]);
        }
        int[][] beyond = {{ADD, MOST, 1}, {ADD, LEAST, -1}, {ADD, MOST, MOST}, {ADD, LEAST, LEAST},
            {SUB, LEAST, 1}, {SUB, MOST, -1}, {MUL, LEAST, -1}, {MUL, 1 << 27, 2}, {MUL, MOST, 2},
            {MUL, 1 << 14, 1 << 14}, {MUL, LEAST, 8}, {MUL, LEAST, 15}};
        for (int[] row : beyond) {
            isAny(computed(row), 0, 1, 3);
            isAny(computed(row), 0, 4, 3);
        }
    }

    /** Of numbers at place 1, of registers at place 4. */
    private static ConstantSpread computed(int[] row) {
        ConstantSpread s = program();
        op(s, 0, row[0], 3, n(row[1]), n(row[2]));
        move(s, 0, 1, n(row[1]));
        move(s, 0, 2, n(row[2]));
        op(s, 0, row[0], 3, 1, 2);
        s.analyse(0);
        return s;
    }

    @Sentence(of = "Terms", says = "operands with numbers give a number")
    private static void operandsWithoutNumbersGiveAny() {
        ConstantSpread s = program();
        in(s, 0, 0);
        op(s, 0, MUL, 1, 0, n(0));
        op(s, 0, MUL, 2, n(0), 0);
        op(s, 0, SUB, 3, 0, 0);
        op(s, 0, LESS, 4, 0, 0);
        move(s, 0, 5, 0);
        s.code(0, w(MOVE, 0), 0, n(3), 1, 1);
        s.analyse(0);
        for (int r = 0; r < 6; r++) {
            isAny(s, 0, 6, r);
        }
        has(s, 0, 7, 0, 3);
    }

    @Sentence(of = "Terms", says = "and for INPUT and calls, ANY")
    private static void inputAndCallsGiveAny() {
        ConstantSpread s = program(0);
        s.table(1);
        in(s, 0, 1);
        call(s, 0, 2, 1);
        tableCall(s, 0, 3, n(0));
        tableCall(s, 0, 4, 1);
        ret(s, 1, n(5));
        s.analyse(0);
        for (int r = 0; r < 6; r++) {
            due("kind(0, 4, " + r + ")", s.kind(0, 4, r), r >= 1 && r <= 4 ? 2 : 1);
        }
    }

    @Sentence(of = "Terms", says = "(a TABLE CALL with an empty table: 0);")
    private static void tableCallOfAnEmptyTableGives0() {
        ConstantSpread s = program(0);
        in(s, 0, 0);
        in(s, 0, 1);
        in(s, 0, 2);
        tableCall(s, 0, 1, n(3));
        tableCall(s, 0, 2, 0);
        s.analyse(0);
        isAny(s, 0, 3, 1);
        has(s, 0, 4, 1, 0);
        has(s, 0, 5, 2, 0);
        s.table(1);
        s.analyse(0);
        isAny(s, 0, 4, 1);
        isAny(s, 0, 5, 2);
    }

    @Sentence(of = "Terms", says = "the others as they were.")
    private static void theOthersAsTheyWere() {
        for (int operation = 0; operation <= 12; operation++) {
            ConstantSpread s = program();
            for (int r = 0; r < 5; r++) {
                move(s, 0, r, n(60 + r));
            }
            in(s, 0, 5);
            int x = operation == CALL ? 0 : 7;
            s.code(0, w(operation, 3), x, n(1), n(2), n(3));
            s.analyse(0);
            if (operation == RET) {
                notComeTo(s, 0, 7);
                continue;
            }
            for (int r = 0; r < 5; r++) {
                if (r != 3) {
                    has(s, 0, 7, r, 60 + r);
                }
            }
            isAny(s, 0, 7, 5);
            if (operation == OUT || operation == IF || operation == GO || operation == NIL) {
                has(s, 0, 7, 3, 63);
            }
        }
    }

    @Sentence(of = "Terms", says = "A place has what comes from all sides: a number, if that is the same from"
            + " all.")
    private static void whatComesFromAllSides() {
        ConstantSpread s = program();
        in(s, 0, 0);
        move(s, 0, 1, n(4));
        move(s, 0, 2, n(4));
        move(s, 0, 3, n(4));
        onlyIf(s, 0, 0, 11);
        move(s, 0, 1, n(4));
        move(s, 0, 2, n(5));
        in(s, 0, 3);
        onlyIf(s, 0, 0, 11);
        move(s, 0, 2, n(4));
        move(s, 0, 4, n(-1));
        nil(s, 0);
        s.analyse(0);
        has(s, 0, 11, 1, 4);
        isAny(s, 0, 11, 2);
        isAny(s, 0, 11, 3);
        isAny(s, 0, 11, 4);
        has(s, 0, 11, 5, 0);
    }

    @Sentence(of = "Terms", says = "A CALL that is come to goes to its function's first place, too, with what"
            + " its operands have as parameters, and 0 in the other registers;")
    private static void callsGoToTheFirstPlace() {
        for (int parameters = 0; parameters <= 3; parameters++) {
            ConstantSpread s = program(parameters);
            in(s, 0, 1);
            move(s, 0, 2, n(9));
            move(s, 0, 4, n(9));
            call(s, 0, 0, 1, 2, 1, n(LEAST));
            nil(s, 0);
            s.analyse(0);
            has(s, 1, 0, 0, parameters > 0 ? 9 : 0);
            due("kind(1, 0, 1)", s.kind(1, 0, 1), parameters > 1 ? 2 : 1);
            has(s, 1, 0, 2, parameters > 2 ? LEAST : 0);
            has(s, 1, 0, 4, 0);
            has(s, 0, 5, 4, 9);
        }
        ConstantSpread t = program(1, 1);
        call(t, 0, 0, 1, n(3));
        ret(t, 0, 7);
        call(t, 0, 0, 1, n(4));
        call(t, 0, 0, 2, n(4));
        t.analyse(0);
        has(t, 1, 0, 0, 3);
        notComeTo(t, 2, 0);
    }

    @Sentence(of = "Terms", says = "a TABLE CALL so to the entry that X says, if it has a number, else to all of"
            + " the table.")
    private static void tableCallsGoToTheEntry() {
        for (int x : new int[] {0, 2, 3, -1, -2, LEAST, MOST}) {
            for (int operand : new int[] {3, n(x)}) {
                ConstantSpread s = program(1, 2, 3);
                s.table(1);
                s.table(2);
                s.table(3);
                move(s, 0, 3, n(x));
                tableCall(s, 0, 0, operand, n(7), n(8), 3);
                due("reached, of " + x, s.analyse(0), 2);
                int entry = 1 + ((x % 3) + 3) % 3;
                has(s, entry, 0, 0, 7);
                has(s, entry, 0, 1, entry > 1 ? 8 : 0);
                has(s, entry, 0, 2, entry > 2 ? x : 0);
                has(s, entry, 0, 3, 0);
            }
        }
        ConstantSpread t = program(1, 2, 3);
        t.table(1);
        t.table(3);
        in(t, 0, 3);
        tableCall(t, 0, 0, 3, n(7), n(8), 3);
        due("all of the table", t.analyse(0), 3);
        has(t, 1, 0, 1, 0);
        notComeTo(t, 2, 0);
        has(t, 3, 0, 1, 8);
        isAny(t, 3, 0, 2);
        t.table(3);
        t.table(2);
        due("all of a full table", t.analyse(0), 4);
        has(t, 2, 0, 0, 7);
    }

    @Sentence(of = "Terms", says = "(An operand that is a number has it.)")
    private static void operandsThatAreNumbersHaveThem() {
        ConstantSpread s = program(3);
        for (int r = 0; r < 6; r++) {
            in(s, 0, r);
        }
        call(s, 0, 0, 1, n(0), n(1), n(-1));
        onlyIf(s, 0, n(5), 9);
        ret(s, 0, n(1));
        op(s, 0, ADD, 2, n(5), n(-7));
        s.analyse(0);
        has(s, 1, 0, 0, 0);
        has(s, 1, 0, 1, 1);
        has(s, 1, 0, 2, -1);
        notComeTo(s, 0, 8);
        isAny(s, 0, 9, 5);
        has(s, 0, 10, 2, -2);
    }

    @Sentence(of = "Terms", says = "A function is REACHED if its first place is come to.")
    private static void reachedFunctions() {
        ConstantSpread s = program(0, 0, 0, 0);
        due("main alone, without statements", s.analyse(0), 1);
        call(s, 0, 0, 1);
        ret(s, 0, 7);
        call(s, 0, 0, 2);
        call(s, 3, 0, 4);
        call(s, 4, 0, 3);
        due("one without statements", s.analyse(0), 2);
        has(s, 1, 0, 0, 0);
        notComeTo(s, 2, 0);
        notComeTo(s, 3, 0);
    }

    @Sentence(of = "Terms", says = "A SPECIAL CALL is a CALL that is come to,")
    private static void onlyCallsThatAreComeToAreSpecial() {
        ConstantSpread s = program(1);
        s.table(1);
        tableCall(s, 0, 0, n(0), n(1));
        // Register 1 has 0, and so this is not a call of function 1 by its X.
        tableCall(s, 0, 0, 1, n(2));
        ret(s, 0, 7);
        call(s, 0, 0, 1, n(3));
        s.analyse(6);
        isAny(s, 1, 0, 0);
        due("neither TABLE CALLs nor one that is not come to", s.functions(), 2);
        ConstantSpread t = program(1);
        t.table(1);
        tableCall(t, 0, 0, n(0), n(1));
        call(t, 0, 0, 1, n(3));
        t.analyse(6);
        due("a CALL beside a TABLE CALL", t.functions(), 3);
        field(t, 0, 1, X, 2);
    }

    /** What stands behind main's 16 statements is another function's, not main's. */
    @Sentence(of = "Terms", says = "A SPECIAL CALL is a CALL that is come to,")
    private static void noCallStandsAtTheEndOf16() {
        ConstantSpread s = program(1, 1);
        s.table(2);
        in(s, 0, 0);
        tableCall(s, 0, 0, n(0), 0);
        call(s, 0, 0, 1, 0);
        for (int i = 3; i < 15; i++) {
            nil(s, 0);
        }
        call(s, 1, 0, 2, 3);
        in(s, 1, 3);
        onlyIf(s, 1, 3, 0);
        nil(s, 0);
        s.analyse(6);
        isAny(s, 2, 0, 0);
        has(s, 0, 16, 3, 0);
        isAny(s, 1, 0, 3);
        due("no call is special", s.functions(), 3);
        ConstantSpread t = program(1, 1);
        in(t, 0, 0);
        call(t, 0, 0, 1, 0);
        call(t, 0, 0, 2, n(0));
        for (int i = 3; i < 16; i++) {
            nil(t, 0);
        }
        call(t, 1, 0, 2, 3);
        in(t, 1, 3);
        onlyIf(t, 1, 3, 0);
        t.analyse(6);
        due("main's call of 2 is", t.functions(), 4);
        field(t, 0, 2, X, 3);
        field(t, 1, 0, X, 2);
    }

    @Sentence(of = "Terms", says = "of a function but main,")
    private static void callsOfMainAreNotSpecial() {
        ConstantSpread s = program();
        in(s, 0, 0);
        call(s, 0, 1, 0, n(1), n(2), n(3));
        call(s, 0, 1, 0, n(4), n(5), n(6));
        go(s, 0, 0);
        due("analyse(6)", s.analyse(6), 1);
        isAny(s, 0, 0, 0);
        isAny(s, 0, 0, 1);
        due("functions()", s.functions(), 1);
    }

    @Sentence(of = "Terms", says = "one of whose parameters has ANY at its first place,")
    private static void oneParameterHasAny() {
        for (int p = 0; p < 3; p++) {
            ConstantSpread s = program(3);
            in(s, 0, 0);
            call(s, 0, 1, 1, n(1), n(1), n(1));
            call(s, 0, 1, 1, n(1), n(1), n(1));
            s.analyse(6);
            due("none has ANY", s.functions(), 2);
            call(s, 0, 1, 1, p == 0 ? 0 : n(1), p == 1 ? 0 : n(1), p == 2 ? 0 : n(1));
            s.analyse(6);
            due("parameter " + p + " has ANY", s.functions(), 3);
        }
        ConstantSpread t = program(1);
        call(t, 0, 0, 1, n(1), n(2), n(3));
        call(t, 0, 0, 1, n(1), n(4), n(5));
        in(t, 1, 1);
        onlyIf(t, 1, 1, 0);
        t.analyse(6);
        isAny(t, 1, 0, 1);
        due("a register that is no parameter has ANY", t.functions(), 2);
    }

    @Sentence(of = "Terms", says = "while that call's operand has a number.")
    private static void thatOperandHasANumber() {
        ConstantSpread s = program(2);
        in(s, 0, 0);
        call(s, 0, 1, 1, 0, n(1), n(8));
        call(s, 0, 1, 1, 0, n(1), n(9));
        s.analyse(6);
        isAny(s, 1, 0, 0);
        due("the number is another operand's", s.functions(), 2);
        call(s, 0, 1, 1, 5, n(1), 0);
        s.analyse(6);
        due("a register that has a number", s.functions(), 3);
        field(s, 0, 3, X, 2);
        has(s, 2, 0, 0, 0);
    }

    @Sentence(of = "Terms", says = "TO SPECIALISE: as long as there is a special call, and fewer COPIES were"
            + " made than they may be:")
    private static void asManyCopiesAsMayBe() {
        for (int copies = 0; copies <= 6; copies++) {
            ConstantSpread s = program(1);
            in(s, 0, 0);
            call(s, 0, 0, 1, 0);
            for (int i = 0; i < 8; i++) {
                call(s, 0, 0, 1, n(i));
            }
            due("reached", s.analyse(copies), 2 + copies);
            due("functions()", s.functions(), 2 + copies);
            for (int i = 0; i < 8; i++) {
                field(s, 0, 2 + i, X, i < copies ? 2 + i : 1);
            }
        }
        for (int copies = 2; copies <= 6; copies++) {
            ConstantSpread t = program(1);
            call(t, 0, 0, 1, n(1));
            call(t, 0, 0, 1, n(2));
            call(t, 0, 0, 1, n(3));
            due("no special call is left", t.analyse(copies), 4);
            due("functions()", t.functions(), 4);
        }
    }

    @Sentence(of = "Terms", says = "of the first one (by function, copies too, then statement)")
    private static void theFirstOneByFunctionThenStatement() {
        ConstantSpread s = program(1, 1);
        in(s, 0, 0);
        call(s, 0, 0, 2, 0);
        call(s, 0, 0, 1, 0);
        call(s, 0, 0, 1, n(5));
        call(s, 0, 0, 1, n(6));
        call(s, 1, 0, 2, 0);
        call(s, 1, 0, 2, n(8));
        s.analyse(1);
        field(s, 0, 3, X, 3);
        field(s, 0, 4, X, 1);
        field(s, 1, 1, X, 2);
        s.analyse(2);
        field(s, 0, 4, X, 4);
        s.analyse(3);
        field(s, 1, 1, X, 5);
        // The copies' calls with 8 say the same as the original's, and go along.
        field(s, 3, 1, X, 5);
        field(s, 3, 0, X, 2);
        s.analyse(5);
        field(s, 3, 0, X, 6);
        field(s, 4, 0, X, 7);
        has(s, 6, 0, 0, 5);
        has(s, 7, 0, 0, 6);
        due("functions()", s.functions(), 8);
    }

    @Sentence(of = "Terms", says = "the function called is copied, as the next function;")
    private static void copiedAsTheNextFunction() {
        ConstantSpread s = program(0, 0, 0, 0, 2);
        in(s, 0, 0);
        call(s, 0, 0, 5, 0, 0);
        for (int i = 0; i < 7; i++) {
            call(s, 0, 0, 5, n(i), 0);
        }
        for (int i = 0; i < 15; i++) {
            s.code(5, w(NIL, i % 6), i, 6, 14, -2);
        }
        s.code(5, w(SUB, 5), 9, 0, 1, 6);
        s.analyse(6);
        due("six copies of six functions", s.functions(), 12);
        for (int copy = 6; copy < 12; copy++) {
            field(s, 0, copy - 4, X, copy);
            fields(s, copy, 14, NIL, 2, 14, 6, 14, -2);
            fields(s, copy, 15, SUB, 5, 9, n(copy - 6), 1, 6);
            threw("it has 16 statements", IOOBE, () -> s.statement(6, 16, 0));
            isAny(s, copy, 0, 1);
            has(s, copy, 0, 2, 0);
        }
        field(s, 0, 8, X, 5);
    }

    @Sentence(of = "Terms", says = "that call, and all CALLs that are come to of the same function in which the"
            + " same operands have numbers, and the same ones, go to the copy from now on;")
    private static void callsThatSayTheSameGoAlong() {
        ConstantSpread s = program(2, 2, 0);
        s.table(1);
        in(s, 0, 0);
        call(s, 0, 1, 1, n(1), 0);
        move(s, 0, 2, n(1));
        call(s, 0, 1, 1, 2, 0);
        call(s, 0, 1, 1, n(1), n(2));
        call(s, 0, 1, 1, 0, 0);
        call(s, 0, 1, 1, 0, n(1));
        call(s, 0, 1, 1, n(2), 0);
        call(s, 0, 1, 2, n(1), 0);
        tableCall(s, 0, 1, 0, n(1), 0);
        call(s, 0, 1, 3);
        ret(s, 0, 7);
        call(s, 0, 1, 1, n(1), 0);
        in(s, 3, 5);
        call(s, 3, 1, 1, n(1), 5);
        s.analyse(1);
        int[] goesTo = {0, 4, 0, 4, 1, 1, 1, 1, 2, 0, 3, 0, 1};
        for (int i = 0; i < goesTo.length; i++) {
            if (goesTo[i] != 0) {
                field(s, 0, i, X, goesTo[i]);
            }
        }
        field(s, 0, 9, OP, TAB);
        field(s, 3, 1, X, 4);
        isAny(s, 4, 0, 1);
        has(s, 4, 0, 0, 1);
    }

    @Sentence(of = "Terms", says = "in which the same operands have numbers, and the same ones,")
    private static void eachOfThreeParametersCounts() {
        ConstantSpread s = program(3);
        in(s, 0, 0);
        in(s, 0, 4);
        call(s, 0, 1, 1, n(1), n(2), n(3));
        call(s, 0, 2, 1, n(1), n(2), n(3));
        nil(s, 0);
        call(s, 0, 3, 1, n(4), n(2), n(3));
        call(s, 0, 3, 1, n(1), n(4), n(3));
        call(s, 0, 3, 1, n(1), n(2), n(4));
        call(s, 0, 3, 1, 0, n(2), n(3));
        call(s, 0, 3, 1, n(1), 0, n(3));
        call(s, 0, 3, 1, n(1), n(2), 0);
        call(s, 0, 4, 1, n(1), n(2), n(3));
        out(s, 0, 1);
        s.analyse(1);
        int[] goesTo = {0, 0, 2, 2, 0, 1, 1, 1, 1, 1, 1, 2};
        for (int i = 0; i < goesTo.length; i++) {
            if (goesTo[i] != 0) {
                field(s, 0, i, X, goesTo[i]);
            }
        }
    }

    @Sentence(of = "Terms", says = "and all that is known is made anew.")
    private static void allIsMadeAnew() {
        ConstantSpread s = program(1, 1);
        call(s, 0, 0, 1, n(1));
        call(s, 0, 0, 1, n(2));
        op(s, 1, SUB, 1, 0, n(2));
        onlyIf(s, 1, 1, 4);
        call(s, 1, 2, 2, 1);
        ret(s, 1, 7);
        call(s, 1, 2, 2, n(9));
        s.analyse(0);
        isAny(s, 1, 0, 0);
        isAny(s, 2, 0, 0);
        s.analyse(1);
        has(s, 1, 0, 0, 2);
        has(s, 1, 1, 1, 0);
        notComeTo(s, 1, 4);
        has(s, 1, 3, 1, 0);
        has(s, 3, 0, 0, 1);
        notComeTo(s, 3, 2);
    }

    @Sentence(of = "Terms", says = "THE NEW PROGRAM, of what is known in the end:")
    private static void ofWhatIsKnownInTheEnd() {
        ConstantSpread s = program(1);
        call(s, 0, 0, 1, n(1));
        call(s, 0, 0, 1, n(2));
        out(s, 1, 0);
        s.analyse(0);
        field(s, 1, 0, A, 0);
        s.analyse(1);
        field(s, 1, 0, A, n(2));
        field(s, 2, 0, A, n(1));
        s.analyse(0);
        field(s, 1, 0, A, 0);
    }

    @Sentence(of = "Terms", says = "functions that are not reached have no statements (they are GONE);")
    private static void goneFunctions() {
        ConstantSpread s = program(1, 0);
        call(s, 0, 0, 1, n(2));
        op(s, 1, SUB, 0, 0, n(1));
        onlyIf(s, 1, 0, 0);
        for (int i = 0; i < 16; i++) {
            nil(s, 2);
        }
        due("reached", s.analyse(1), 2);
        due("functions()", s.functions(), 4);
        threw("all calls of 1 go to its copy", IOOBE, () -> s.statement(1, 0, 0));
        threw("2 was never called", IOOBE, () -> s.statement(2, 0, 0));
        threw("2 was never called", IOOBE, () -> s.statement(2, 15, 0));
        field(s, 3, 0, OP, SUB);
        due("run(true, 99)", s.run(true, 99), 1);
        due("done()", s.done(), 5);
    }

    @Sentence(of = "Terms", says = "a statement that is not come to is NOTHING;")
    private static void statementsNotComeToAreNothing() {
        for (int operation = 0; operation <= 12; operation++) {
            ConstantSpread s = program();
            ret(s, 0, 7);
            s.code(0, w(operation, 3), 0, 1, 2, 3);
            s.analyse(0);
            fields(s, 0, 1, NIL, 3, 0, 1, 2, 3);
        }
    }

    @Sentence(of = "Terms", says = "each operand (A, B, C where the statement uses them, both kinds of calls"
            + " all three; X of a TABLE CALL) whose register has a number there is that number;")
    private static void operandsBecomeNumbers() {
        int[] used = {1, 2, 2, 2, 2, 0, 1, 0, 0, 1, 3, 3, 0};
        for (int operation = 0; operation <= 12; operation++) {
            if (operation == IF) {
                continue;
            }
            ConstantSpread s = program(0);
            s.table(1);
            in(s, 0, 0);
            move(s, 0, 1, n(MOST));
            move(s, 0, 2, n(LEAST));
            int x = operation == TAB ? 0 : 1;
            s.code(0, w(operation, 3), x, 1, 2, 8 + 5);
            s.analyse(0);
            int uses = used[operation];
            fields(s, 0, 3, operation, 3, x, uses > 0 ? MAX : 1, uses > 1 ? MIN + 7 : 2, uses > 2 ? 7 : 8 + 5);
        }
        ConstantSpread t = program(0);
        t.table(1);
        in(t, 0, 0);
        t.code(0, w(CALL, 3), 1, 8, -8, n(4));
        t.code(0, w(TAB, 3), 8, 0, 800, n(-4));
        t.code(0, w(IF, 3), 2, 8, 0, 1);
        t.analyse(0);
        fields(t, 0, 1, CALL, 3, 1, 8, -8, n(4));
        fields(t, 0, 2, TAB, 3, 8, 0, 800, n(-4));
        fields(t, 0, 3, IF, 3, 2, 8, 0, 1);
    }

    @Sentence(of = "Terms", says = "then an IF with a number is GO or NOTHING,")
    private static void ifsBecomeGoOrNothing() {
        for (int number : new int[] {0, 1, -1, 8, MOST, LEAST}) {
            for (int a : new int[] {2, n(number)}) {
                ConstantSpread s = program();
                move(s, 0, 2, n(number));
                s.code(0, w(IF, 4), 3, a, 1, 5);
                out(s, 0, n(1));
                out(s, 0, n(2));
                s.analyse(0);
                fields(s, 0, 1, number == 0 ? NIL : GO, 4, 3, n(number), 1, 5);
                due("run(true, 99)", s.run(true, 99), 1);
                if (number == 0) {
                    outputsAre(s, 1, 2);
                } else {
                    outputsAre(s, 2);
                }
            }
        }
    }

    @Sentence(of = "Terms", says = "and a TABLE CALL with a number a CALL, or, with an empty table, MOVE of 0"
            + " (A).")
    private static void tableCallsBecomeCallOrMove() {
        for (int x : new int[] {0, 1, 2, -1, LEAST, MOST}) {
            for (int operand : new int[] {2, n(x)}) {
                ConstantSpread s = program(0, 0);
                move(s, 0, 2, n(x));
                s.code(0, w(TAB, 4), operand, n(9), 3, 2);
                s.analyse(0);
                fields(s, 0, 1, MOVE, 4, n(x), 7, n(0), n(x));
                s.table(2);
                s.table(1);
                s.analyse(0);
                fields(s, 0, 1, CALL, 4, (x & 1) == 0 ? 2 : 1, n(9), n(0), n(x));
            }
        }
        int[][] ofThree = {{0, 1}, {2, 3}, {3, 1}, {-1, 3}, {-2, 2}, {-3, 1}, {LEAST, 3}, {MOST, 1}};
        for (int[] row : ofThree) {
            ConstantSpread s = program(0, 0, 0);
            s.table(1);
            s.table(2);
            s.table(3);
            tableCall(s, 0, 4, n(row[0]));
            s.analyse(0);
            fields(s, 0, 0, CALL, 4, row[1]);
        }
        ConstantSpread t = program(0);
        in(t, 0, 0);
        tableCall(t, 0, 1, 0);
        t.analyse(0);
        field(t, 0, 1, OP, TAB);
    }

    @Sentence(of = "Terms", says = "Fields that a statement does not use are as they were.")
    private static void unusedFieldsAreAsTheyWere() {
        int[][] rows = {{MOVE, 5, -9, 7, 1, 2}, {ADD, 5, 99, 7, 7, 1}, {IN, 5, 1, 1, 2, 3},
            {OUT, 5, 1, 7, 1, 6}, {GO, 5, 1, 1, 2, 3}, {NIL, 5, 1, 1, 2, 3}, {RET, 5, 1, 7, 2, -2}};
        for (int[] row : rows) {
            ConstantSpread s = program();
            s.code(0, w(row[0], row[1]), row[2], row[3], row[4], row[5]);
            s.analyse(0);
            fields(s, 0, 0, row);
        }
    }

    @Sentence(of = "Terms", says = "The table is as it was.")
    private static void theTableIsAsItWas() {
        ConstantSpread s = program(1);
        s.table(1);
        in(s, 0, 0);
        tableCall(s, 0, 1, 0, n(5));
        call(s, 0, 1, 1, n(6));
        s.analyse(6);
        field(s, 0, 2, X, 2);
        field(s, 0, 1, OP, TAB);
        s.input(4);
        s.run(true, 99);
        due("the TABLE CALL calls 1", s.calls(1), 1);
        due("latest(1, 0)", s.latest(1, 0), 5);
        due("the CALL calls the copy", s.calls(2), 1);
        due("table(0)", s.table(0), 2);
    }
}
