import java.lang.reflect.Method;
import java.lang.reflect.Modifier;
import java.util.Arrays;
import java.util.TreeSet;

/** Each sentence of promises 1 to 18, with the boundaries that it names. */
public final class ConstantSpreadPromisesBySentence extends SentenceTest {
    private static final int[] BELOW_0 = {-1, -2, MIN};

    public static void main(String[] args) {
        String[] headings = new String[19];
        headings[0] = "The public face";
        for (int promise = 1; promise <= 18; promise++) {
            headings[promise] = "Promise " + promise;
        }
        runAll(ConstantSpreadPromisesBySentence.class, headings);
    }

    /** Main calls 1 with 3, 4 and with 3, 5, and puts out the sums that it gives back. */
    private static ConstantSpread twoCalls() {
        ConstantSpread s = program(2);
        call(s, 0, 0, 1, n(3), n(4));
        out(s, 0, 0);
        call(s, 0, 1, 1, n(3), n(5));
        out(s, 0, 1);
        op(s, 1, ADD, 2, 0, 1);
        ret(s, 1, 2);
        return s;
    }

    /** The same, with what is known, a copy as function 2, and a run. */
    private static ConstantSpread known() {
        ConstantSpread s = twoCalls();
        s.analyse(6);
        s.run(true, 99);
        return s;
    }

    @Sentence(of = "The public face", says = "public final class ConstantSpread {"
            + " public ConstantSpread();"
            + " public int function(int parameters) throws IllegalArgumentException, IllegalStateException;"
            + " public int code(int function, int word, int x, int a, int b, int c) throws"
            + " IndexOutOfBoundsException, IllegalArgumentException, IllegalStateException;"
            + " public int table(int function) throws IndexOutOfBoundsException, IllegalStateException;"
            + " public int input(int v);"
            + " public void empty();"
            + " public int analyse(int copies) throws IllegalArgumentException, IllegalStateException;"
            + " public int functions();"
            + " public int kind(int function, int place, int register) throws IllegalStateException,"
            + " IndexOutOfBoundsException;"
            + " public int number(int function, int place, int register) throws IllegalStateException,"
            + " IndexOutOfBoundsException;"
            + " public int statement(int function, int i, int what) throws IllegalStateException,"
            + " IndexOutOfBoundsException, IllegalArgumentException;"
            + " public int run(boolean anew, int statements) throws IllegalArgumentException,"
            + " IllegalStateException;"
            + " public int done();"
            + " public int outputs();"
            + " public int output(int i) throws IndexOutOfBoundsException;"
            + " public int calls(int function) throws IndexOutOfBoundsException;"
            + " public boolean same(int function, int parameter) throws IndexOutOfBoundsException;"
            + " public int latest(int function, int parameter) throws IndexOutOfBoundsException;"
            + " }")
    private static void face() {
        TreeSet<String> want = new TreeSet<>(Arrays.asList("function int[int] IAE ISE",
                "code int[int, int, int, int, int, int] IOOBE IAE ISE", "table int[int] IOOBE ISE",
                "input int[int]", "empty void[]", "analyse int[int] IAE ISE", "functions int[]",
                "kind int[int, int, int] ISE IOOBE", "number int[int, int, int] ISE IOOBE",
                "statement int[int, int, int] ISE IOOBE IAE", "run int[boolean, int] IAE ISE",
                "done int[]", "outputs int[]", "output int[int] IOOBE", "calls int[int] IOOBE",
                "same boolean[int, int] IOOBE", "latest int[int, int] IOOBE"));
        TreeSet<String> got = new TreeSet<>();
        for (Method m : ConstantSpread.class.getDeclaredMethods()) {
            if (!Modifier.isPrivate(m.getModifiers())) {
                got.add(faceOf(m));
            }
        }
        due("the face is as the document's: " + got, got.equals(want), true);
    }

    private static String faceOf(Method m) {
        StringBuilder text = new StringBuilder(m.getName() + " " + m.getReturnType().getName()
                + Arrays.toString(m.getParameterTypes()));
        for (Class<?> e : m.getExceptionTypes()) {
            text.append(' ').append(e.getSimpleName().replaceAll("[a-z]", ""));
        }
        return text.toString();
    }

    @Sentence(of = "Promise 1", says = "No functions,")
    private static void promise01NoFunctions() {
        ConstantSpread s = new ConstantSpread();
        due("functions()", s.functions(), 0);
        threw("code of function 0", IOOBE, () -> nil(s, 0));
        threw("table(0)", IOOBE, () -> s.table(0));
        threw("analyse(0)", ISE, () -> s.analyse(0));
        threw("run(false, 0)", ISE, () -> s.run(false, 0));
        due("calls(0)", s.calls(0), 0);
        due("function(0)", s.function(0), 0);
    }

    @Sentence(of = "Promise 1", says = "no table,")
    private static void promise01NoTable() {
        ConstantSpread s = program();
        tableCall(s, 0, 0, 1);
        s.analyse(0);
        field(s, 0, 0, OP, MOVE);
        s.run(false, 99);
        due("calls(0)", s.calls(0), 1);
        due("table(0)", s.table(0), 1);
    }

    @Sentence(of = "Promise 1", says = "no inputs,")
    private static void promise01NoInputs() {
        ConstantSpread s = program();
        in(s, 0, 0);
        out(s, 0, 0);
        s.run(false, 99);
        outputsAre(s, 0);
        due("input(5)", s.input(5), 1);
    }

    @Sentence(of = "Promise 1", says = "nothing known,")
    private static void promise01NothingKnown() {
        ConstantSpread s = new ConstantSpread();
        threw("kind(0, 0, 0)", ISE, () -> s.kind(0, 0, 0));
        threw("number(0, 0, 0)", ISE, () -> s.number(0, 0, 0));
        s.function(0);
        threw("kind(0, 0, 0)", ISE, () -> s.kind(0, 0, 0));
        threw("number(0, 0, 0)", ISE, () -> s.number(0, 0, 0));
    }

    @Sentence(of = "Promise 1", says = "no new program.")
    private static void promise01NoNewProgram() {
        ConstantSpread s = new ConstantSpread();
        threw("statement(0, 0, 0)", ISE, () -> s.statement(0, 0, 0));
        threw("run(true, 0)", ISE, () -> s.run(true, 0));
    }

    @Sentence(of = "Promise 2", says = "A new function without statements: its number;")
    private static void promise02WithoutStatementsItsNumber() {
        ConstantSpread s = new ConstantSpread();
        for (int f = 0; f < 6; f++) {
            due("function", s.function(0), f);
            due("functions()", s.functions(), f + 1);
            due("its first statement", call(s, f, 0, f), 0);
        }
        ConstantSpread t = program(0);
        call(t, 0, 0, 1);
        t.analyse(0);
        threw("statement(1, 0, 0)", IOOBE, () -> t.statement(1, 0, 0));
        due("run(false, 1)", t.run(false, 1), 1);
    }

    @Sentence(of = "Promise 2", says = "what is known and the new program are gone.")
    private static void promise02WhatIsKnownIsGone() {
        ConstantSpread s = known();
        due("a copy", s.functions(), 3);
        due("function(1)", s.function(1), 2);
        nothingIsKnown(s);
        due("functions()", s.functions(), 3);
        due("the latest run stays", s.calls(2), 1);
        due("analyse(0)", s.analyse(0), 2);
        isAny(s, 1, 0, 1);
        notComeTo(s, 2, 0);
    }

    @Sentence(of = "Promise 2", says = "IllegalArgumentException if it has not 0 .. 3 parameters,")
    private static void promise02ParametersNot0To3() {
        ConstantSpread s = known();
        for (int p : new int[] {-1, 4, 5, MIN, MAX}) {
            refused(s, "function(" + p + ")", IAE, () -> s.function(p));
        }
        due("0", s.function(0), 2);
        due("3", s.function(3), 3);
        due("1", s.function(1), 4);
        due("2", s.function(2), 5);
        threw("a seventh with 4", IAE, () -> s.function(4));
    }

    @Sentence(of = "Promise 2", says = "or main any;")
    private static void promise02MainHasNone() {
        ConstantSpread s = new ConstantSpread();
        for (int p : new int[] {1, 2, 3, 4, -1}) {
            refused(s, "function(" + p + ")", IAE, () -> s.function(p));
        }
        due("main", s.function(0), 0);
        due("the next one", s.function(1), 1);
    }

    @Sentence(of = "Promise 2", says = "IllegalStateException if there are 6.")
    private static void promise02ThereAre6() {
        ConstantSpread s = program(1, 2, 3, 0);
        due("a sixth", s.function(3), 5);
        s.analyse(0);
        for (int p = 0; p <= 3; p++) {
            int parameters = p;
            refused(s, "a seventh", ISE, () -> s.function(parameters));
        }
        ConstantSpread t = program(1, 1, 1, 1);
        call(t, 0, 0, 1, n(1));
        call(t, 0, 0, 1, n(2));
        t.analyse(1);
        due("five and a copy", t.functions(), 6);
        due("a sixth", t.function(0), 5);
    }

    @Sentence(of = "Promise 3", says = "A statement behind the others,")
    private static void promise03BehindTheOthers() {
        ConstantSpread s = program(0);
        out(s, 0, n(1));
        out(s, 1, n(9));
        out(s, 0, n(2));
        s.run(false, 1);
        out(s, 0, n(3));
        s.run(false, 99);
        outputsAre(s, 1, 2, 3);
    }

    @Sentence(of = "Promise 3", says = "with the operation that the lowest four bits say, and the other ones"
            + " (word >> 4) as D:")
    private static void promise03OperationAndD() {
        for (int operation = 0; operation <= 12; operation++) {
            ConstantSpread s = program();
            for (int d = 0; d <= 5; d++) {
                due("code", s.code(0, d * 16 + operation, 0, 1, 1, 1), d);
            }
            s.analyse(0);
            for (int d = 0; d <= 5; d++) {
                field(s, 0, d, D, d);
            }
            if (operation != TAB) {
                field(s, 0, 0, OP, operation == IF ? NIL : operation);
            }
        }
    }

    @Sentence(of = "Promise 3", says = "its number;")
    private static void promise03ItsNumber() {
        ConstantSpread s = program(0);
        for (int i = 0; i < 16; i++) {
            due("code of main", nil(s, 0), i);
            due("code of 1", nil(s, 1), i);
        }
    }

    @Sentence(of = "Promise 3", says = "what is known and the new program are gone.")
    private static void promise03WhatIsKnownIsGone() {
        ConstantSpread s = known();
        due("code", nil(s, 1), 2);
        nothingIsKnown(s);
        due("the copy is gone", s.functions(), 2);
        due("the latest run stays", s.done(), 8);
        due("the program of before goes on", s.run(false, 99), 1);
        outputsAre(s, 7, 8);
    }

    @Sentence(of = "Promise 3", says = "IndexOutOfBoundsException if there is no such function;")
    private static void promise03NoSuchFunction() {
        ConstantSpread s = known();
        for (int f : new int[] {-1, 2, 3, 6, MIN, MAX}) {
            refused(s, "code of " + f, IOOBE, () -> nil(s, f));
            threw("all is wrong, of " + f, IOOBE, () -> s.code(f, 15, -1, 6, 6, 6));
        }
        due("code of 1", nil(s, 1), 2);
        ConstantSpread t = new ConstantSpread();
        threw("code of 0", IOOBE, () -> nil(t, 0));
    }

    @Sentence(of = "Promise 3", says = "IllegalArgumentException if the operation is not 0 .. 12,")
    private static void promise03OperationNot0To12() {
        ConstantSpread s = known();
        for (int d = 0; d <= 5; d++) {
            for (int operation = 13; operation <= 15; operation++) {
                int word = w(operation, d);
                refused(s, "word " + word, IAE, () -> s.code(0, word, 0, 7, 7, 7));
            }
        }
        refused(s, "word -1", IAE, () -> s.code(0, -1, 0, 7, 7, 7));
        due("operation 12", s.code(0, 12, 0, 7, 7, 7), 4);
        due("operation 0", s.code(0, 0, 0, 7, 7, 7), 5);
    }

    @Sentence(of = "Promise 3", says = "D not 0 .. 5,")
    private static void promise03DNot0To5() {
        for (int operation = 0; operation <= 12; operation++) {
            ConstantSpread s = known();
            for (int d : new int[] {-1, 6, 7, 8, 15, 16, (1 << 27) - 1, -(1 << 27)}) {
                int word = w(operation, d);
                refused(s, "word " + word, IAE, () -> s.code(0, word, 0, 7, 7, 7));
            }
            due("D 0", s.code(0, w(operation, 0), 0, 7, 7, 7), 4);
            due("D 5", s.code(0, w(operation, 5), 0, 7, 7, 7), 5);
        }
    }

    @Sentence(of = "Promise 3", says = "an operand it uses none,")
    private static void promise03OperandsThatAreNone() {
        int[] used = {1, 2, 2, 2, 2, 0, 1, 1, 0, 1, 3, 3, 0};
        for (int operation = 0; operation <= 12; operation++) {
            ConstantSpread s = known();
            for (int none : new int[] {6, 14, -2, MAX - 1, MIN + 6}) {
                int word = w(operation, 5);
                int uses = used[operation];
                threw("A of " + word, uses > 0 ? IAE : FINE, () -> s.code(0, word, 0, none, 7, 7));
                threw("B of " + word, uses > 1 ? IAE : FINE, () -> s.code(0, word, 0, 7, none, 7));
                if (uses != 2) {
                    threw("C of " + word, uses > 2 ? IAE : FINE, () -> s.code(1, word, 0, 7, 7, none));
                }
            }
        }
        ConstantSpread t = known();
        for (int none : new int[] {6, 14, -2, MAX - 1, MIN + 6}) {
            refused(t, "X of a TABLE CALL", IAE, () -> t.code(0, TAB, none, 7, 7, 7));
            refused(t, "A of an OUTPUT", IAE, () -> t.code(0, OUT, 0, none, 7, 7));
        }
        for (int operand : new int[] {0, 5, 7, 8, -1, -8, MIN, MAX}) {
            threw("X of a TABLE CALL", FINE, () -> t.code(0, TAB, operand, 7, 7, 7));
        }
    }

    @Sentence(of = "Promise 3", says = "X not 0 .. 16 for IF and GO,")
    private static void promise03XNot0To16() {
        for (int operation : new int[] {IF, GO}) {
            ConstantSpread s = known();
            for (int x : new int[] {-1, 17, 18, MIN, MAX}) {
                refused(s, operation + " to " + x, IAE, () -> s.code(0, operation, x, 7, 7, 7));
            }
            due("X 0", s.code(0, operation, 0, 7, 7, 7), 4);
            due("X 16", s.code(0, operation, 16, 7, 7, 7), 5);
            due("X 5", s.code(0, operation, 5, 7, 7, 7), 6);
        }
        ConstantSpread t = program();
        for (int operation : new int[] {MOVE, ADD, SUB, MUL, LESS, IN, OUT, RET, NIL}) {
            threw("any X for " + operation, FINE, () -> t.code(0, operation, -1, 7, 7, 7));
        }
    }

    @Sentence(of = "Promise 3", says = "or no function for CALL;")
    private static void promise03NoFunctionForCall() {
        ConstantSpread s = known();
        for (int x : new int[] {-1, 2, 3, 6, 12, MIN, MAX}) {
            refused(s, "CALL of " + x, IAE, () -> s.code(0, CALL, x, 7, 7, 7));
        }
        due("CALL of main", s.code(1, CALL, 0, 7, 7, 7), 2);
        due("CALL of 1", s.code(1, CALL, 1, 7, 7, 7), 3);
        threw("CALL of 2", IAE, () -> s.code(0, CALL, 2, 7, 7, 7));
        s.function(0);
        threw("CALL of 2, now that it is", FINE, () -> s.code(0, CALL, 2, 7, 7, 7));
    }

    @Sentence(of = "Promise 3", says = "IllegalStateException if there are 16.")
    private static void promise03ThereAre16() {
        ConstantSpread s = program(0);
        for (int i = 0; i < 15; i++) {
            nil(s, 0);
        }
        due("a 16th", out(s, 0, n(1)), 15);
        s.analyse(0);
        refused(s, "a 17th", ISE, () -> out(s, 0, n(2)));
        refused(s, "a wrong 17th", IAE, () -> out(s, 0, 6));
        s.run(false, 99);
        outputsAre(s, 1);
        due("the other function's first", nil(s, 1), 0);
    }

    @Sentence(of = "Promise 3", says = "(For CALL and TABLE CALL, A, B and C all have to be operands.)")
    private static void promise03CallsNeedThreeOperands() {
        for (int parameters = 0; parameters <= 3; parameters++) {
            for (int operation : new int[] {CALL, TAB}) {
                ConstantSpread s = program(parameters);
                s.table(1);
                s.analyse(0);
                for (int k = 0; k < 3; k++) {
                    int a = k == 0 ? 6 : 7;
                    int b = k == 1 ? 14 : 5;
                    int c = k == 2 ? -2 : 0;
                    refused(s, "operand " + k, IAE, () -> s.code(0, operation, 1, a, b, c));
                }
                due("all are", s.code(0, operation, 1, 7, 5, 0), 0);
            }
        }
    }

    @Sentence(of = "Promise 4", says = "A function more in the table: its size;")
    private static void promise04ItsSize() {
        ConstantSpread s = program(0, 0, 0);
        in(s, 0, 0);
        tableCall(s, 0, 1, 0);
        out(s, 0, 1);
        ret(s, 1, n(1));
        ret(s, 2, n(2));
        ret(s, 3, n(3));
        int[] entries = {3, 1, 1, 2};
        for (int e = 0; e < 4; e++) {
            due("table(" + entries[e] + ")", s.table(entries[e]), e + 1);
        }
        for (int e = 0; e < 4; e++) {
            s.empty();
            s.input(e);
            s.run(false, 99);
            outputsAre(s, entries[e]);
        }
        ConstantSpread t = program();
        due("main", t.table(0), 1);
    }

    @Sentence(of = "Promise 4", says = "what is known and the new program are gone.")
    private static void promise04WhatIsKnownIsGone() {
        ConstantSpread s = known();
        due("table(1)", s.table(1), 1);
        nothingIsKnown(s);
        due("the copy is gone", s.functions(), 2);
        due("the latest run stays", s.done(), 8);
    }

    @Sentence(of = "Promise 4", says = "IndexOutOfBoundsException if there is no such function;")
    private static void promise04NoSuchFunction() {
        ConstantSpread s = known();
        for (int f : new int[] {-1, 2, 3, 6, MIN, MAX}) {
            refused(s, "table(" + f + ")", IOOBE, () -> s.table(f));
        }
        for (int size = 1; size <= 4; size++) {
            due("table(1)", s.table(1), size);
        }
        threw("a fifth that is none", IOOBE, () -> s.table(2));
    }

    @Sentence(of = "Promise 4", says = "IllegalStateException if there are 4.")
    private static void promise04ThereAre4() {
        ConstantSpread s = program(0);
        for (int size = 1; size <= 4; size++) {
            due("table(0)", s.table(0), size);
        }
        in(s, 0, 0);
        onlyIf(s, 0, 0, 3);
        ret(s, 0, 7);
        tableCall(s, 0, 0, n(4));
        s.analyse(0);
        refused(s, "a fifth", ISE, () -> s.table(1));
        s.input(1);
        s.run(false, 99);
        due("the fifth is not in it", s.calls(1), 0);
        due("4 is 0 modulo 4", s.calls(0), 2);
    }

    @Sentence(of = "Promise 5", says = "An input more for runs: how many;")
    private static void promise05HowMany() {
        ConstantSpread s = new ConstantSpread();
        due("without functions", s.input(MIN), 1);
        s.function(0);
        in(s, 0, 0);
        out(s, 0, 0);
        go(s, 0, 0);
        s.analyse(0);
        due("what is known stays", s.input(MAX), 2);
        isAny(s, 0, 0, 0);
        s.run(true, 9);
        outputsAre(s, MIN, MAX, 0);
        for (int i = 3; i <= 12; i++) {
            due("input(0)", s.input(0), i);
        }
        due("the latest run stays", s.outputs(), 3);
    }

    @Sentence(of = "Promise 5", says = "-1, refused, if there are 12.")
    private static void promise05ThereAre12() {
        ConstantSpread s = program();
        in(s, 0, 0);
        out(s, 0, 0);
        go(s, 0, 0);
        for (int i = 1; i <= 12; i++) {
            due("input", s.input(i), i);
        }
        due("a 13th", s.input(13), -1);
        due("a 14th", s.input(14), -1);
        s.run(false, 39);
        outputsAre(s, 1, 2, 3, 4, 5, 6, 7, 8, 9, 10, 11, 12, 0);
        due("runs take none away", s.input(15), -1);
        s.empty();
        due("after empty()", s.input(16), 1);
    }

    @Sentence(of = "Promise 6", says = "No inputs.")
    private static void promise06NoInputs() {
        ConstantSpread s = new ConstantSpread();
        s.empty();
        due("input(4)", s.input(4), 1);
        s.function(0);
        in(s, 0, 0);
        out(s, 0, 0);
        s.analyse(0);
        s.run(true, 9);
        s.empty();
        isAny(s, 0, 1, 0);
        outputsAre(s, 4);
        s.run(true, 9);
        outputsAre(s, 0);
        s.empty();
        due("input(5)", s.input(5), 1);
        s.run(true, 9);
        outputsAre(s, 5);
    }

    @Sentence(of = "Promise 7", says = "Finds what is known, and specialises with at most so many copies"
            + " (0 .. 6):")
    private static void promise07AtMostSoManyCopies() {
        ConstantSpread s = program(1);
        for (int i = 0; i < 9; i++) {
            call(s, 0, 0, 1, n(i));
        }
        for (int copies : new int[] {0, 6, 1, 5, 0}) {
            s.analyse(copies);
            due("functions()", s.functions(), 2 + copies);
            due("kind(1, 0, 0)", s.kind(1, 0, 0), 2);
        }
    }

    @Sentence(of = "Promise 7", says = "how many functions are reached, copies too.")
    private static void promise07HowManyAreReached() {
        ConstantSpread s = program(2, 0);
        due("main alone", s.analyse(6), 1);
        call(s, 0, 0, 1, n(3), n(4));
        due("1, too", s.analyse(6), 2);
        call(s, 0, 0, 1, n(3), n(5));
        due("without a copy", s.analyse(0), 2);
        due("a copy, too", s.analyse(1), 3);
        call(s, 1, 0, 2);
        due("all and a copy", s.analyse(1), 4);
        due("again", s.analyse(1), 4);
    }

    @Sentence(of = "Promise 7", says = "IllegalArgumentException if it is not 0 .. 6;")
    private static void promise07CopiesNot0To6() {
        ConstantSpread s = known();
        for (int copies : new int[] {-1, 7, 8, MIN, MAX}) {
            refused(s, "analyse(" + copies + ")", IAE, () -> s.analyse(copies));
        }
        due("analyse(0)", s.analyse(0), 2);
        due("analyse(6)", s.analyse(6), 3);
        ConstantSpread t = program();
        threw("analyse(7)", IAE, () -> t.analyse(7));
        nothingIsKnown(t);
        ConstantSpread u = new ConstantSpread();
        threw("analyse(7) without main", IAE, () -> u.analyse(7));
    }

    @Sentence(of = "Promise 7", says = "IllegalStateException if there is no main.")
    private static void promise07NoMain() {
        ConstantSpread s = new ConstantSpread();
        for (int copies = 0; copies <= 6; copies++) {
            int most = copies;
            refused(s, "analyse(" + copies + ")", ISE, () -> s.analyse(most));
        }
        s.function(0);
        due("with main", s.analyse(0), 1);
    }

    @Sentence(of = "Promise 8", says = "How many functions there are, copies too.")
    private static void promise08HowManyThereAre() {
        ConstantSpread s = new ConstantSpread();
        for (int f = 0; f < 6; f++) {
            due("functions()", s.functions(), f);
            s.function(f == 0 ? 0 : 1);
        }
        due("functions()", s.functions(), 6);
        for (int i = 0; i < 9; i++) {
            call(s, 0, 0, 5, n(i));
        }
        for (int copies = 0; copies <= 6; copies++) {
            due("four are not reached", s.analyse(copies), 2 + copies);
            due("but they are there", s.functions(), 6 + copies);
        }
        s.run(true, 99);
        due("functions()", s.functions(), 12);
    }

    @Sentence(of = "Promise 9", says = "What is known of a register at a place 0 .. 16 (beyond the END: that):")
    private static void promise09BeyondTheEnd() {
        for (int length = 0; length <= 16; length++) {
            ConstantSpread s = program();
            for (int i = 0; i < length; i++) {
                op(s, 0, ADD, 5, 5, n(1));
            }
            s.analyse(0);
            for (int place = 0; place <= 16; place++) {
                has(s, 0, place, 5, place < length ? place : length);
            }
        }
        ConstantSpread t = program();
        ret(t, 0, 7);
        t.analyse(0);
        for (int place = 1; place <= 16; place++) {
            notComeTo(t, 0, place);
        }
    }

    @Sentence(of = "Promise 9", says = "0 it is not come to, 1 a number, 2 ANY.")
    private static void promise09Kinds() {
        ConstantSpread s = program(0);
        in(s, 0, 3);
        ret(s, 0, 7);
        nil(s, 0);
        s.analyse(0);
        for (int r = 0; r < 6; r++) {
            due("a number", s.kind(0, 0, r), 1);
            due("ANY in 3", s.kind(0, 1, r), r == 3 ? 2 : 1);
            due("behind RETURN", s.kind(0, 2, r), 0);
            due("the END", s.kind(0, 16, r), 0);
            due("not reached", s.kind(1, 0, r), 0);
        }
    }

    @Sentence(of = "Promise 9", says = "IllegalStateException if nothing is known;")
    private static void promise09NothingIsKnown() {
        ConstantSpread s = twoCalls();
        refused(s, "kind(0, 0, 0)", ISE, () -> s.kind(0, 0, 0));
        threw("all is wrong", ISE, () -> s.kind(-1, -1, -1));
        s.run(false, 9);
        threw("a run tells nothing", ISE, () -> s.kind(0, 0, 0));
        s.analyse(0);
        threw("kind(0, 0, 0)", FINE, () -> s.kind(0, 0, 0));
        s.table(1);
        threw("kind(0, 0, 0)", ISE, () -> s.kind(0, 0, 0));
    }

    @Sentence(of = "Promise 9", says = "IndexOutOfBoundsException if there is no such function, place or register.")
    private static void promise09NoSuchFunctionPlaceOrRegister() {
        ConstantSpread s = known();
        for (int i : BELOW_0) {
            refused(s, "function " + i, IOOBE, () -> s.kind(i, 0, 0));
            refused(s, "place " + i, IOOBE, () -> s.kind(0, i, 0));
            refused(s, "register " + i, IOOBE, () -> s.kind(0, 0, i));
        }
        for (int beyond : new int[] {0, 1, 100, MAX - 17}) {
            refused(s, "function", IOOBE, () -> s.kind(3 + beyond, 0, 0));
            refused(s, "place", IOOBE, () -> s.kind(0, 17 + beyond, 0));
            refused(s, "register", IOOBE, () -> s.kind(0, 0, 6 + beyond));
        }
        threw("the copy, the last place and register", FINE, () -> s.kind(2, 16, 5));
    }

    @Sentence(of = "Promise 10", says = "The number that it has;")
    private static void promise10TheNumberThatItHas() {
        ConstantSpread s = program();
        move(s, 0, 5, n(MOST));
        move(s, 0, 0, n(LEAST));
        move(s, 0, 5, n(-1));
        s.analyse(0);
        due("number(0, 0, 5)", s.number(0, 0, 5), 0);
        due("number(0, 1, 5)", s.number(0, 1, 5), MOST);
        due("number(0, 2, 0)", s.number(0, 2, 0), LEAST);
        due("number(0, 3, 5)", s.number(0, 3, 5), -1);
        due("number(0, 16, 5)", s.number(0, 16, 5), -1);
    }

    @Sentence(of = "Promise 10", says = "0 if it has none.")
    private static void promise10Has0IfNone() {
        ConstantSpread s = program(1);
        call(s, 0, 0, 1, n(7));
        call(s, 0, 0, 1, n(8));
        move(s, 0, 1, n(7));
        in(s, 0, 1);
        ret(s, 0, 7);
        move(s, 0, 1, n(7));
        s.analyse(0);
        due("ANY of 7 and 8", s.number(1, 0, 0), 0);
        due("ANY of an input", s.number(0, 4, 1), 0);
        due("not come to", s.number(0, 6, 1), 0);
        s.analyse(6);
        due("a number with a copy", s.number(1, 0, 0), 8);
        s.analyse(0);
        due("ANY again", s.number(1, 0, 0), 0);
    }

    @Sentence(of = "Promise 10", says = "0 if it has none.")
    private static void promise10Has0IfNoMoreComeTo() {
        ConstantSpread s = program(1);
        call(s, 0, 0, 1, n(1));
        call(s, 0, 0, 1, n(2));
        op(s, 1, SUB, 1, 0, n(2));
        move(s, 1, 5, n(9));
        onlyIf(s, 1, 1, 4);
        ret(s, 1, 7);
        nil(s, 1);
        s.analyse(0);
        due("come to", s.number(1, 4, 5), 9);
        s.analyse(1);
        due("come to by the copy alone", s.number(1, 4, 5), 0);
        due("in the copy", s.number(2, 4, 5), 9);
    }

    @Sentence(of = "Promise 10", says = "Exceptions as with kind.")
    private static void promise10Exceptions() {
        ConstantSpread t = twoCalls();
        threw("nothing is known", ISE, () -> t.number(0, 0, 0));
        threw("all is wrong", ISE, () -> t.number(-1, -1, -1));
        ConstantSpread s = known();
        for (int i : BELOW_0) {
            refused(s, "function " + i, IOOBE, () -> s.number(i, 0, 0));
            refused(s, "place " + i, IOOBE, () -> s.number(0, i, 0));
            refused(s, "register " + i, IOOBE, () -> s.number(0, 0, i));
        }
        for (int beyond : new int[] {0, 1, 100, MAX - 17}) {
            refused(s, "function", IOOBE, () -> s.number(3 + beyond, 0, 0));
            refused(s, "place", IOOBE, () -> s.number(0, 17 + beyond, 0));
            refused(s, "register", IOOBE, () -> s.number(0, 0, 6 + beyond));
        }
        threw("the copy, the last place and register", FINE, () -> s.number(2, 16, 5));
        nil(s, 0);
        threw("nothing is known any more", ISE, () -> s.number(0, 0, 0));
    }

    @Sentence(of = "Promise 11", says = "A field of a statement of the new program: its operation (what = 0), D,"
            + " X, A, B, C (5).")
    private static void promise11Fields() {
        ConstantSpread s = program(3);
        in(s, 0, 0);
        s.code(0, w(CALL, 4), 1, n(1), 0, 2);
        s.code(1, w(LESS, 5), 77, 0, 1, 99);
        s.analyse(0);
        int[] want = {CALL, 4, 1, n(1), 0, n(0)};
        for (int what = 0; what <= 5; what++) {
            due("statement(0, 1, " + what + ")", s.statement(0, 1, what), want[what]);
        }
        fields(s, 1, 0, LESS, 5, 77, n(1), 1, 99);
    }

    @Sentence(of = "Promise 11", says = "IllegalStateException if nothing is known;")
    private static void promise11NothingIsKnown() {
        ConstantSpread s = twoCalls();
        refused(s, "statement(0, 0, 0)", ISE, () -> s.statement(0, 0, 0));
        threw("all is wrong", ISE, () -> s.statement(-1, -1, -1));
        s.analyse(0);
        threw("statement(0, 0, 0)", FINE, () -> s.statement(0, 0, 0));
        s.function(0);
        threw("statement(0, 0, 0)", ISE, () -> s.statement(0, 0, 0));
    }

    @Sentence(of = "Promise 11", says = "IndexOutOfBoundsException if there is no such function or statement;")
    private static void promise11NoSuchFunctionOrStatement() {
        ConstantSpread s = known();
        for (int i : BELOW_0) {
            refused(s, "function " + i, IOOBE, () -> s.statement(i, 0, 0));
            refused(s, "statement " + i, IOOBE, () -> s.statement(0, i, 0));
        }
        for (int beyond : new int[] {0, 1, 12, 13, MAX - 4}) {
            refused(s, "function", IOOBE, () -> s.statement(3 + beyond, 0, 0));
            refused(s, "statement of main", IOOBE, () -> s.statement(0, 4 + beyond, 0));
            threw("statement of the copy", IOOBE, () -> s.statement(2, 2 + beyond, 0));
        }
        threw("what is wrong, too", IOOBE, () -> s.statement(0, 4, 6));
        threw("the last one of main", FINE, () -> s.statement(0, 3, 0));
        threw("the last one of the copy", FINE, () -> s.statement(2, 1, 0));
    }

    @Sentence(of = "Promise 11", says = "IllegalArgumentException if there is no such what.")
    private static void promise11NoSuchWhat() {
        ConstantSpread s = known();
        for (int what : new int[] {-1, 6, 7, MIN, MAX}) {
            refused(s, "what " + what, IAE, () -> s.statement(0, 0, what));
            refused(s, "what " + what, IAE, () -> s.statement(2, 1, what));
        }
        threw("what 0", FINE, () -> s.statement(2, 1, 0));
        threw("what 5", FINE, () -> s.statement(2, 1, 5));
    }

    @Sentence(of = "Promise 12", says = "Runs the program, or the new one:")
    private static void promise12TheProgramOrTheNewOne() {
        ConstantSpread s = twoCalls();
        s.analyse(6);
        s.run(false, 99);
        outputsAre(s, 7, 8);
        due("1 of the program", s.calls(1), 2);
        due("2 of the program", s.calls(2), 0);
        s.run(true, 99);
        outputsAre(s, 7, 8);
        due("1 of the new one", s.calls(1), 1);
        due("2 of the new one", s.calls(2), 1);
        s.run(false, 99);
        due("1 of the program", s.calls(1), 2);
    }

    @Sentence(of = "Promise 12", says = "0 after so many statements (0 .. 3000; ENDs do not count),")
    private static void promise12AfterSoManyStatements() {
        ConstantSpread s = program();
        due("nothing but an END", s.run(false, 0), 1);
        due("done()", s.done(), 0);
        go(s, 0, 0);
        for (int most : new int[] {0, 1, 2, 2999, 3000}) {
            due("run(false, " + most + ")", s.run(false, most), 0);
            due("done()", s.done(), most);
        }
        ConstantSpread t = program(0);
        call(t, 0, 0, 1);
        nil(t, 0);
        due("before the second one, behind an END", t.run(false, 1), 0);
        due("both, and the ENDs", t.run(false, 2), 1);
        due("done()", t.done(), 2);
        due("and to spare", t.run(false, 3), 1);
        due("done()", t.done(), 2);
        ConstantSpread u = program(0);
        call(u, 0, 0, 1);
        go(u, 0, 0);
        due("1500 ENDs more", u.run(false, 3000), 0);
        due("done()", u.done(), 3000);
        due("calls(1)", u.calls(1), 1500);
    }

    /** As many ENDs as can be: all 3000 statements are calls, and all have come back. */
    @Sentence(of = "Promise 12", says = "0 after so many statements (0 .. 3000; ENDs do not count),")
    private static void promise12ThreeThousandEnds() {
        ConstantSpread s = program(0, 0, 0, 0, 0);
        int[][] callsOf = {{2, 1}, {3, 1}, {4, 5}, {5, 7}};
        for (int[] row : callsOf) {
            callOften(s, 0, row[0], row[1]);
        }
        callOften(s, 2, 3, 16);
        callOften(s, 3, 4, 10);
        callOften(s, 4, 5, 16);
        due("3000 calls", s.run(false, 3000), 1);
        due("done()", s.done(), 3000);
        nil(s, 0);
        due("3000 calls, and one more statement", s.run(false, 3000), 0);
        due("done()", s.done(), 3000);
        due("calls(5)", s.calls(5), 7 + 16 * (5 + 10 * (1 + 16)));
    }

    private static void callOften(ConstantSpread s, int function, int called, int times) {
        for (int i = 0; i < times; i++) {
            call(s, function, 0, called);
        }
    }

    @Sentence(of = "Promise 12", says = "1 when main has returned,")
    private static void promise12MainHasReturned() {
        ConstantSpread s = program(0);
        call(s, 0, 0, 1);
        ret(s, 0, n(5));
        nil(s, 0);
        ret(s, 1, n(0));
        due("RETURN of 1 alone", s.run(false, 2), 0);
        due("RETURN of main", s.run(false, 3), 1);
        due("done()", s.done(), 3);
        ConstantSpread t = program();
        in(t, 0, 0);
        onlyIf(t, 0, 0, 3);
        ret(t, 0, n(1));
        call(t, 0, 0, 0);
        out(t, 0, 0);
        t.input(1);
        due("only the inner call of main", t.run(false, 6), 0);
        due("and the outer one", t.run(false, 7), 1);
        outputsAre(t, 1);
    }

    @Sentence(of = "Promise 12", says = "2 if there would be a call in more than ten others,")
    private static void promise12CallsInMoreThanTenOthers() {
        for (int operation : new int[] {CALL, TAB}) {
            ConstantSpread s = program(1);
            s.table(1);
            int x = operation == CALL ? 1 : n(0);
            in(s, 0, 0);
            s.code(0, w(operation, 1), x, 0, 7, 7);
            out(s, 0, 1);
            onlyIf(s, 1, 0, 2);
            ret(s, 1, n(50));
            op(s, 1, SUB, 0, 0, n(1));
            s.code(1, w(operation, 1), x, 0, 7, 7);
            op(s, 1, ADD, 1, 1, n(1));
            ret(s, 1, 1);
            s.input(9);
            due("in ten others", s.run(false, 3000), 1);
            outputsAre(s, 59);
            due("calls(1)", s.calls(1), 10);
            s.empty();
            s.input(10);
            due("in eleven others", s.run(false, 3000), 2);
            due("calls(1)", s.calls(1), 10);
            due("outputs()", s.outputs(), 0);
            due("done()", s.done(), 31);
            due("before it would be", s.run(false, 31), 0);
            due("when it would be", s.run(false, 32), 2);
            s.empty();
            s.input(9);
            due("in ten others again", s.run(false, 3000), 1);
        }
        ConstantSpread t = program(0);
        for (int i = 0; i < 13; i++) {
            call(t, 0, 0, 1);
        }
        due("calls behind one another", t.run(false, 99), 1);
        due("calls(1)", t.calls(1), 13);
    }

    @Sentence(of = "Promise 12", says = "or a 41st output.")
    private static void promise12A41stOutput() {
        ConstantSpread s = program();
        op(s, 0, ADD, 0, 0, n(1));
        out(s, 0, 0);
        op(s, 0, LESS, 1, 0, n(40));
        onlyIf(s, 0, 1, 0);
        due("40 outputs", s.run(false, 3000), 1);
        due("outputs()", s.outputs(), 40);
        due("output(39)", s.output(39), 40);
        out(s, 0, n(99));
        due("a 41st", s.run(false, 3000), 2);
        due("outputs()", s.outputs(), 40);
        due("output(39)", s.output(39), 40);
        due("done()", s.done(), 160);
        due("before it would be", s.run(false, 160), 0);
        due("when it would be", s.run(false, 161), 2);
        due("a run after it", s.run(false, 3), 0);
        outputsAre(s, 1);
    }

    @Sentence(of = "Promise 12", says = "IllegalArgumentException if it is not 0 .. 3000;")
    private static void promise12StatementsNot0To3000() {
        ConstantSpread s = known();
        for (int most : new int[] {-1, 3001, 3002, MIN, MAX}) {
            refused(s, "run(true, " + most + ")", IAE, () -> s.run(true, most));
            refused(s, "run(false, " + most + ")", IAE, () -> s.run(false, most));
        }
        due("run(true, 0)", s.run(true, 0), 0);
        due("run(false, 3000)", s.run(false, 3000), 1);
        ConstantSpread t = new ConstantSpread();
        threw("without main, too", IAE, () -> t.run(true, 3001));
    }

    @Sentence(of = "Promise 12", says = "IllegalStateException if there is no main,")
    private static void promise12NoMain() {
        ConstantSpread s = new ConstantSpread();
        s.input(1);
        for (int most : new int[] {0, 1, 3000}) {
            refused(s, "run(false, " + most + ")", ISE, () -> s.run(false, most));
            refused(s, "run(true, " + most + ")", ISE, () -> s.run(true, most));
        }
        s.function(0);
        due("with main", s.run(false, 0), 1);
    }

    @Sentence(of = "Promise 12", says = "or nothing is known and the new one is asked for.")
    private static void promise12NothingIsKnown() {
        ConstantSpread s = twoCalls();
        refused(s, "run(true, 0)", ISE, () -> s.run(true, 0));
        s.run(false, 99);
        refused(s, "run(true, 3000)", ISE, () -> s.run(true, 3000));
        outputsAre(s, 7, 8);
        s.analyse(0);
        due("something is known", s.run(true, 99), 1);
        nil(s, 0);
        refused(s, "run(true, 99)", ISE, () -> s.run(true, 99));
        due("the program of before", s.run(false, 99), 1);
    }

    @Sentence(of = "Promise 13", says = "How many statements the latest run did;")
    private static void promise13HowManyTheLatestRunDid() {
        ConstantSpread s = twoCalls();
        s.analyse(6);
        int[][] runs = {{99, 8}, {5, 5}, {0, 0}, {8, 8}, {7, 7}};
        for (int[] run : runs) {
            s.run(false, run[0]);
            due("done()", s.done(), run[1]);
            s.run(true, run[0]);
            due("done()", s.done(), run[1]);
        }
        s.analyse(0);
        s.function(0);
        s.input(1);
        s.empty();
        due("other calls are no run", s.done(), 7);
    }

    @Sentence(of = "Promise 13", says = "0 if there was none.")
    private static void promise13NoRun() {
        ConstantSpread s = new ConstantSpread();
        due("done()", s.done(), 0);
        s.function(0);
        nil(s, 0);
        s.analyse(0);
        threw("run(true, 3001)", IAE, () -> s.run(true, 3001));
        due("done()", s.done(), 0);
    }

    @Sentence(of = "Promise 14", says = "How many outputs it made.")
    private static void promise14HowManyOutputs() {
        ConstantSpread s = twoCalls();
        due("without a run", s.outputs(), 0);
        for (int[] run : new int[][] {{99, 2}, {0, 0}, {4, 1}, {3, 0}, {8, 2}, {7, 1}}) {
            s.run(false, run[0]);
            due("outputs()", s.outputs(), run[1]);
        }
        s.analyse(0);
        nil(s, 1);
        due("other calls are no run", s.outputs(), 1);
    }

    @Sentence(of = "Promise 15", says = "One of them.")
    private static void promise15OneOfThem() {
        ConstantSpread s = program();
        in(s, 0, 0);
        out(s, 0, 0);
        go(s, 0, 0);
        s.input(MIN);
        s.input(-1);
        s.input(MAX);
        s.run(false, 9);
        due("output(0)", s.output(0), MIN);
        due("output(1)", s.output(1), -1);
        due("output(2)", s.output(2), MAX);
        due("output(0) again", s.output(0), MIN);
        due("a 41st", s.run(false, 3000), 2);
        due("output(39)", s.output(39), 0);
    }

    @Sentence(of = "Promise 15", says = "IndexOutOfBoundsException if there is none.")
    private static void promise15ThereIsNone() {
        ConstantSpread s = new ConstantSpread();
        threw("without a run", IOOBE, () -> s.output(0));
        ConstantSpread t = known();
        for (int i : new int[] {-1, 2, 3, 39, 40, MIN, MAX}) {
            refused(t, "output(" + i + ")", IOOBE, () -> t.output(i));
        }
        due("the last one", t.output(1), 8);
        t.run(true, 4);
        threw("the run before had it", IOOBE, () -> t.output(1));
        ConstantSpread u = program();
        out(u, 0, 7);
        go(u, 0, 0);
        u.run(false, 3000);
        threw("output(40) of 40", IOOBE, () -> u.output(40));
        threw("output(39) of 40", FINE, () -> u.output(39));
    }

    @Sentence(of = "Promise 16", says = "How often it called a function (main at the beginning, too).")
    private static void promise16HowOften() {
        ConstantSpread s = twoCalls();
        due("without a run", s.calls(0), 0);
        s.run(false, 0);
        due("main at the beginning", s.calls(0), 1);
        due("calls(1)", s.calls(1), 0);
        s.run(false, 1);
        due("one call", s.calls(1), 1);
        s.run(false, 99);
        due("two calls", s.calls(1), 2);
        due("never called", s.calls(11), 0);
        s.run(false, 3);
        due("of the latest run alone", s.calls(1), 1);
        ConstantSpread t = program();
        t.table(0);
        tableCall(t, 0, 0, n(0));
        t.run(false, 3);
        due("main by itself, too", t.calls(0), 4);
    }

    @Sentence(of = "Promise 16", says = "IndexOutOfBoundsException if it is not 0 .. 11.")
    private static void promise16FunctionNot0To11() {
        for (ConstantSpread s : new ConstantSpread[] {new ConstantSpread(), known()}) {
            for (int f : new int[] {-1, 12, 13, MIN, MAX}) {
                refused(s, "calls(" + f + ")", IOOBE, () -> s.calls(f));
            }
            for (int f = 0; f <= 11; f++) {
                int function = f;
                threw("calls(" + f + ")", FINE, () -> s.calls(function));
            }
        }
    }

    @Sentence(of = "Promise 17", says = "Whether a parameter of a function was the same in all of its calls,")
    private static void promise17TheSameInAll() {
        ConstantSpread s = program(3);
        call(s, 0, 0, 1, n(LEAST), n(1), n(0));
        call(s, 0, 0, 1, n(LEAST), n(2), n(0));
        call(s, 0, 0, 1, n(LEAST), n(2), n(1));
        call(s, 0, 0, 1, n(LEAST), n(2), n(0));
        boolean[][] want = {{true, true, true}, {true, false, true}, {true, false, false},
            {true, false, false}};
        for (int calls : new int[] {4, 1, 3, 2}) {
            s.run(false, calls);
            for (int p = 0; p < 3; p++) {
                due("same(1, " + p + ") of " + calls, s.same(1, p), want[calls - 1][p]);
            }
        }
        due("main", s.same(0, 0), true);
        s.analyse(6);
        s.run(true, 99);
        for (int copy = 1; copy <= 3; copy++) {
            for (int p = 0; p < 3; p++) {
                due("in the new program", s.same(copy, p), true);
            }
        }
    }

    @Sentence(of = "Promise 17", says = "of which there was one at least.")
    private static void promise17OneCallAtLeast() {
        ConstantSpread s = new ConstantSpread();
        due("without a run", s.same(0, 0), false);
        ConstantSpread t = twoCalls();
        t.run(false, 0);
        due("main was called", t.same(0, 2), true);
        due("1 was not", t.same(1, 0), false);
        t.run(false, 1);
        due("1 was", t.same(1, 0), true);
        due("no such function", t.same(11, 2), false);
        t.run(false, 0);
        due("not in the latest run", t.same(1, 0), false);
    }

    @Sentence(of = "Promise 17", says = "IndexOutOfBoundsException if it is not 0 .. 11,")
    private static void promise17FunctionNot0To11() {
        for (ConstantSpread s : new ConstantSpread[] {new ConstantSpread(), known()}) {
            for (int f : new int[] {-1, 12, 13, MIN, MAX}) {
                refused(s, "same(" + f + ", 0)", IOOBE, () -> s.same(f, 0));
            }
            for (int f = 0; f <= 11; f++) {
                int function = f;
                threw("same(" + f + ", 0)", FINE, () -> s.same(function, 0));
            }
        }
    }

    @Sentence(of = "Promise 17", says = "or the parameter not 0 .. 2.")
    private static void promise17ParameterNot0To2() {
        ConstantSpread s = known();
        for (int p : new int[] {-1, 3, 4, MIN, MAX}) {
            refused(s, "same(0, " + p + ")", IOOBE, () -> s.same(0, p));
            refused(s, "same(11, " + p + ")", IOOBE, () -> s.same(11, p));
        }
        for (int p = 0; p <= 2; p++) {
            int parameter = p;
            threw("same(11, " + p + ")", FINE, () -> s.same(11, parameter));
        }
    }

    @Sentence(of = "Promise 18", says = "What a parameter was in a function's latest call;")
    private static void promise18LatestCall() {
        ConstantSpread s = program(3);
        in(s, 0, 0);
        call(s, 0, 1, 1, n(1), n(2), 0);
        call(s, 0, 1, 1, 0, n(LEAST), n(MOST));
        move(s, 1, 0, n(77));
        s.input(MIN);
        s.run(false, 99);
        due("latest(1, 0)", s.latest(1, 0), MIN);
        due("latest(1, 1)", s.latest(1, 1), LEAST);
        due("latest(1, 2)", s.latest(1, 2), MOST);
        s.run(false, 2);
        due("latest(1, 0)", s.latest(1, 0), 1);
        due("latest(1, 1)", s.latest(1, 1), 2);
        due("latest(1, 2)", s.latest(1, 2), MIN);
    }

    @Sentence(of = "Promise 18", says = "0 if there was none (or it has no such parameter).")
    private static void promise18NoneOrNoSuchParameter() {
        ConstantSpread s = new ConstantSpread();
        due("without a run", s.latest(0, 0), 0);
        ConstantSpread t = program(1);
        call(t, 0, 0, 1, n(5), n(6), n(7));
        t.run(false, 1);
        due("latest(1, 0)", t.latest(1, 0), 5);
        due("it has no parameter 1", t.latest(1, 1), 0);
        due("it has no parameter 2", t.latest(1, 2), 0);
        due("main has none", t.latest(0, 0), 0);
        due("no such function", t.latest(11, 2), 0);
        t.run(false, 0);
        due("no call in the latest run", t.latest(1, 0), 0);
    }

    @Sentence(of = "Promise 18", says = "Exceptions as with same.")
    private static void promise18Exceptions() {
        for (ConstantSpread s : new ConstantSpread[] {new ConstantSpread(), known()}) {
            for (int f : new int[] {-1, 12, MIN, MAX}) {
                refused(s, "latest(" + f + ", 0)", IOOBE, () -> s.latest(f, 0));
            }
            for (int p : new int[] {-1, 3, MIN, MAX}) {
                refused(s, "latest(0, " + p + ")", IOOBE, () -> s.latest(0, p));
                refused(s, "latest(11, " + p + ")", IOOBE, () -> s.latest(11, p));
            }
            threw("latest(0, 0)", FINE, () -> s.latest(0, 0));
            threw("latest(11, 2)", FINE, () -> s.latest(11, 2));
        }
    }
}
