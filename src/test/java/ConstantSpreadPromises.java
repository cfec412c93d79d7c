import java.lang.reflect.Constructor;
import java.lang.reflect.Field;
import java.lang.reflect.Method;
import java.lang.reflect.Modifier;
import java.util.TreeSet;

/** Each promise by hand: ordinary inputs, the edges that the document names, wrong inputs. */
public final class ConstantSpreadPromises {
    private static final int MOVE = 0, ADD = 1, SUB = 2, MUL = 3, LESS = 4, IN = 5, OUT = 6, IF = 7,
            GO = 8, RET = 9, CALL = 10, TAB = 11, NIL = 12;
    private static final int OP = 0, D = 1, X = 2, A = 3, B = 4, C = 5;
    private static final String IAE = "IllegalArgumentException";
    private static final String ISE = "IllegalStateException";
    private static final String IOOBE = "IndexOutOfBoundsException";
    private static final String FINE = "nothing";
    private static int wrong = 0;

    private interface Act {
        void go();
    }

    private static void due(String what, long got, long want) {
        if (got != want) {
            wrong++;
            System.out.println(what + " answered " + got + ", due is " + want);
        }
    }

    private static void due(String what, boolean got, boolean want) {
        due(what, got ? 1 : 0, want ? 1 : 0);
    }

    private static void threw(String what, String want, Act act) {
        String got = FINE;
        try {
            act.go();
        } catch (RuntimeException e) {
            got = e.getClass().getSimpleName();
        }
        if (!got.equals(want)) {
            wrong++;
            System.out.println(what + " threw " + got + ", due is " + want);
        }
    }

    private static int n(int number) {
        return (number << 3) | 7;
    }

    private static int w(int operation, int d) {
        return (d << 4) | operation;
    }

    private static ConstantSpread withMain() {
        ConstantSpread s = new ConstantSpread();
        s.function(0);
        return s;
    }

    private static int op(ConstantSpread s, int f, int operation, int d, int a, int b) {
        return s.code(f, w(operation, d), 0, a, b, 7);
    }

    private static void field(ConstantSpread s, int f, int i, int what, int want) {
        due("statement(" + f + ", " + i + ", " + what + ")", s.statement(f, i, what), want);
    }

    private static void has(ConstantSpread s, int f, int place, int register, int number) {
        due("kind(" + f + ", " + place + ", " + register + ")", s.kind(f, place, register), 1);
        due("number(" + f + ", " + place + ", " + register + ")", s.number(f, place, register), number);
    }

    private static void isAny(ConstantSpread s, int f, int place, int register) {
        due("kind(" + f + ", " + place + ", " + register + ")", s.kind(f, place, register), 2);
        due("number(" + f + ", " + place + ", " + register + ")", s.number(f, place, register), 0);
    }

    private static void notComeTo(ConstantSpread s, int f, int place) {
        for (int r = 0; r < 6; r++) {
            due("kind(" + f + ", " + place + ", " + r + ")", s.kind(f, place, r), 0);
            due("number(" + f + ", " + place + ", " + r + ")", s.number(f, place, r), 0);
        }
    }

    private static void face() {
        TreeSet<String> want = new TreeSet<>(java.util.List.of("function(int)int",
                "code(int,int,int,int,int,int)int", "table(int)int", "input(int)int", "empty()void",
                "analyse(int)int", "functions()int", "kind(int,int,int)int", "number(int,int,int)int",
                "statement(int,int,int)int", "run(boolean,int)int", "done()int", "outputs()int",
                "output(int)int", "calls(int)int", "same(int,int)boolean", "latest(int,int)int"));
        TreeSet<String> got = new TreeSet<>();
        for (Method m : ConstantSpread.class.getDeclaredMethods()) {
            if (!Modifier.isPrivate(m.getModifiers())) {
                StringBuilder text = new StringBuilder(m.getName()).append('(');
                for (Class<?> c : m.getParameterTypes()) {
                    text.append(text.charAt(text.length() - 1) == '(' ? "" : ",").append(c.getName());
                }
                got.add(text.append(')').append(m.getReturnType().getName()).toString());
            }
        }
        if (!got.equals(want)) {
            wrong++;
            System.out.println("the face is " + got);
        }
        for (Field f : ConstantSpread.class.getDeclaredFields()) {
            due("field " + f.getName() + " is private", Modifier.isPrivate(f.getModifiers()), true);
        }
        Constructor<?>[] constructors = ConstantSpread.class.getDeclaredConstructors();
        due("constructors", constructors.length, 1);
        due("the constructor is public", Modifier.isPublic(constructors[0].getModifiers()), true);
        due("the class is final", Modifier.isFinal(ConstantSpread.class.getModifiers()), true);
    }

    private static void promise1() {
        ConstantSpread s = new ConstantSpread();
        due("1: functions()", s.functions(), 0);
        due("1: done()", s.done(), 0);
        due("1: outputs()", s.outputs(), 0);
        due("1: calls(0)", s.calls(0), 0);
        due("1: same(0, 0)", s.same(0, 0), false);
        due("1: latest(11, 2)", s.latest(11, 2), 0);
        threw("1: kind", ISE, () -> s.kind(0, 0, 0));
        threw("1: number", ISE, () -> s.number(0, 0, 0));
        threw("1: statement", ISE, () -> s.statement(0, 0, 0));
        threw("1: table", IOOBE, () -> s.table(0));
        threw("1: code", IOOBE, () -> s.code(0, 12, 0, 0, 0, 0));
        threw("1: analyse", ISE, () -> s.analyse(0));
        threw("1: run", ISE, () -> s.run(false, 1));
        due("1: input(9)", s.input(9), 1);
    }

    private static void promise2() {
        ConstantSpread s = new ConstantSpread();
        for (int p : new int[] {1, 2, 3, 4, -1, Integer.MIN_VALUE, Integer.MAX_VALUE}) {
            threw("2: function(" + p + ") as main", IAE, () -> s.function(p));
        }
        due("2: functions()", s.functions(), 0);
        due("2: main", s.function(0), 0);
        due("2: 1", s.function(3), 1);
        due("2: 2", s.function(0), 2);
        threw("2: function(4)", IAE, () -> s.function(4));
        threw("2: function(-1)", IAE, () -> s.function(-1));
        s.analyse(0);
        threw("2: function(4) leaves what is known", IAE, () -> s.function(4));
        has(s, 0, 0, 0, 0);
        due("2: 3", s.function(1), 3);
        threw("2: kind", ISE, () -> s.kind(0, 0, 0));
        threw("2: run", ISE, () -> s.run(true, 1));
        due("2: 4", s.function(2), 4);
        due("2: 5", s.function(2), 5);
        threw("2: a seventh", ISE, () -> s.function(0));
        threw("2: both are wrong", IAE, () -> s.function(4));
        due("2: functions()", s.functions(), 6);
    }

    private static void promise2DropsCopies() {
        ConstantSpread s = twoCalls();
        s.analyse(6);
        due("2: functions() with a copy", s.functions(), 3);
        due("2: the new one has the copy's number", s.function(0), 2);
        due("2: functions() without copies", s.functions(), 3);
        threw("2: kind", ISE, () -> s.kind(2, 0, 0));
        due("2: the program is as it was", s.analyse(0), 2);
        isAny(s, 1, 0, 1);
    }

    /** Main calls 1 with 3, 4 and with 3, 5; that gives back the sum. */
    private static ConstantSpread twoCalls() {
        ConstantSpread s = withMain();
        s.function(2);
        s.code(0, w(CALL, 0), 1, n(3), n(4), 7);
        op(s, 0, OUT, 0, 0, 7);
        s.code(0, w(CALL, 1), 1, n(3), n(5), 7);
        op(s, 0, OUT, 0, 1, 7);
        op(s, 1, ADD, 2, 0, 1);
        op(s, 1, RET, 0, 2, 7);
        return s;
    }

    private static void promise3() {
        ConstantSpread s = withMain();
        threw("3: function 1", IOOBE, () -> s.code(1, 13, 0, 0, 0, 0));
        threw("3: function -1", IOOBE, () -> s.code(-1, 0, 0, 0, 0, 0));
        for (int word : new int[] {13, 14, 15, 96, 96 + OUT, -16, -1, Integer.MIN_VALUE, w(GO, 6)}) {
            threw("3: word " + word, IAE, () -> s.code(0, word, 0, 0, 0, 0));
        }
        s.analyse(0);
        threw("3: a refused one", IAE, () -> s.code(0, 13, 0, 0, 0, 0));
        due("3: leaves what is known", s.kind(0, 0, 0), 1);
        due("3: first", s.code(0, w(NIL, 5), -5, 6, 6, 6), 0);
        threw("3: a new one does not", ISE, () -> s.kind(0, 0, 0));
        for (int i = 1; i < 16; i++) {
            due("3: statement " + i, s.code(0, w(MOVE, 5), 99, -1, 6, 14), i);
        }
        threw("3: a 17th", ISE, () -> s.code(0, 0, 0, 0, 0, 0));
        threw("3: a wrong 17th", IAE, () -> s.code(0, 0, 0, 6, 0, 0));
        threw("3: a 17th of no function", IOOBE, () -> s.code(1, 0, 0, 6, 0, 0));
        s.analyse(0);
        field(s, 0, 0, OP, NIL);
        field(s, 0, 0, D, 5);
        field(s, 0, 0, X, -5);
        field(s, 0, 15, C, 14);
    }

    private static void promise3Operands() {
        int[] used = {1, 2, 2, 2, 2, 0, 1, 1, 0, 1, 3, 3, 0};
        for (int operation = 0; operation < 13; operation++) {
            int word = w(operation, 1);
            int uses = used[operation];
            ConstantSpread s = withMain();
            threw("3: A of " + operation, uses > 0 ? IAE : FINE, () -> s.code(0, word, 0, 6, 8, 7));
            threw("3: B of " + operation, uses > 1 ? IAE : FINE, () -> s.code(0, word, 0, 5, -2, 7));
            threw("3: C of " + operation, uses > 2 ? IAE : FINE, () -> s.code(0, word, 0, 5, 13, 14));
            threw("3: all fit " + operation, FINE, () -> s.code(0, word, 0, -1, 13, 15));
        }
        for (int x : new int[] {-1, 17, Integer.MAX_VALUE}) {
            ConstantSpread s = withMain();
            threw("3: IF " + x, IAE, () -> s.code(0, IF, x, 7, 7, 7));
            threw("3: GO " + x, IAE, () -> s.code(0, GO, x, 7, 7, 7));
            threw("3: CALL " + x, IAE, () -> s.code(0, CALL, x, 7, 7, 7));
            threw("3: MOVE " + x, FINE, () -> s.code(0, MOVE, x, 7, 7, 7));
        }
        ConstantSpread s = withMain();
        threw("3: IF 16", FINE, () -> s.code(0, IF, 16, 7, 7, 7));
        threw("3: GO 0", FINE, () -> s.code(0, GO, 0, 6, 6, 6));
        threw("3: CALL of main", FINE, () -> s.code(0, CALL, 0, 7, 7, 7));
        threw("3: CALL of none", IAE, () -> s.code(0, CALL, 1, 7, 7, 7));
        threw("3: TABLE CALL of no operand", IAE, () -> s.code(0, TAB, -10, 7, 7, 7));
        threw("3: TABLE CALL of a number", FINE, () -> s.code(0, TAB, -9, 7, 7, 7));
    }

    private static void promise3KnowsNoCopies() {
        ConstantSpread s = twoCalls();
        s.analyse(6);
        threw("3: the copy is not the program's", IOOBE, () -> s.code(2, NIL, 0, 0, 0, 0));
        threw("3: nor can be called", IAE, () -> s.code(0, CALL, 2, 7, 7, 7));
        threw("4: nor be in the table", IOOBE, () -> s.table(2));
        due("3: all that leaves what is known", s.functions(), 3);
    }

    private static void promise4() {
        ConstantSpread s = withMain();
        s.function(1);
        threw("4: table(2)", IOOBE, () -> s.table(2));
        threw("4: table(-1)", IOOBE, () -> s.table(-1));
        s.analyse(0);
        threw("4: table(2)", IOOBE, () -> s.table(2));
        due("4: leaves what is known", s.kind(0, 0, 0), 1);
        due("4: size", s.table(1), 1);
        threw("4: what is known is gone", ISE, () -> s.kind(0, 0, 0));
        threw("4: the new program is gone", ISE, () -> s.run(true, 0));
        due("4: size", s.table(0), 2);
        due("4: size", s.table(1), 3);
        due("4: size", s.table(1), 4);
        s.analyse(0);
        threw("4: a fifth", ISE, () -> s.table(1));
        threw("4: a fifth that is none", IOOBE, () -> s.table(2));
        due("4: leaves what is known", s.kind(0, 0, 0), 1);
    }

    private static void promises5And6() {
        ConstantSpread s = withMain();
        for (int i = 0; i < 13; i++) {
            op(s, 0, IN, 0, 0, 0);
            if (i >= 10) {
                op(s, 0, OUT, 0, 0, 0);
            }
        }
        s.analyse(0);
        for (int i = 1; i <= 12; i++) {
            due("5: input", s.input(-i), i);
        }
        due("5: a 13th", s.input(50), -1);
        due("5: what is known stays", s.kind(0, 0, 0), 1);
        s.run(false, 99);
        due("5: the 11th", s.output(0), -11);
        due("5: the 12th", s.output(1), -12);
        due("5: none", s.output(2), 0);
        s.run(true, 99);
        due("5: the 12th again", s.output(1), -12);
        s.empty();
        due("6: what is known stays", s.kind(0, 0, 0), 1);
        due("6: the run stays", s.output(1), -12);
        s.run(false, 99);
        due("6: none", s.output(0), 0);
        due("6: first", s.input(Integer.MIN_VALUE), 1);
        s.empty();
        s.empty();
        due("6: first again", s.input(3), 1);
    }

    private static void promise7() {
        ConstantSpread s = new ConstantSpread();
        threw("7: both are wrong", IAE, () -> s.analyse(7));
        threw("7: no main", ISE, () -> s.analyse(6));
        s.function(0);
        s.function(0);
        s.function(0);
        threw("7: -1", IAE, () -> s.analyse(-1));
        threw("7: 7", IAE, () -> s.analyse(7));
        threw("7: nothing is known by that", ISE, () -> s.kind(0, 0, 0));
        due("7: main alone", s.analyse(6), 1);
        threw("7: 7", IAE, () -> s.analyse(7));
        due("7: is still known", s.kind(0, 0, 0), 1);
        s.code(0, CALL, 2, 7, 7, 7);
        due("7: main and 2", s.analyse(0), 2);
        notComeTo(s, 1, 0);
        has(s, 2, 0, 0, 0);
    }

    private static void joins() {
        ConstantSpread s = withMain();
        op(s, 0, IN, 0, 0, 0);
        s.code(0, IF, 5, 0, 7, 7);
        op(s, 0, MOVE, 1, n(4), 7);
        op(s, 0, MOVE, 2, n(8), 7);
        s.code(0, GO, 7, 0, 0, 0);
        op(s, 0, MOVE, 1, n(4), 7);
        op(s, 0, MOVE, 2, n(9), 7);
        op(s, 0, ADD, 3, 1, 1);
        op(s, 0, MUL, 4, 2, 7);
        s.analyse(0);
        isAny(s, 0, 1, 0);
        has(s, 0, 5, 1, 0);
        has(s, 0, 7, 1, 4);
        isAny(s, 0, 7, 2);
        has(s, 0, 8, 3, 8);
        isAny(s, 0, 9, 4);
        due("7: beyond the END", s.kind(0, 16, 4), 2);
        due("7: beyond the END", s.number(0, 16, 3), 8);
    }

    /** A loop that would only change a register if it had changed already. */
    private static void least() {
        ConstantSpread s = withMain();
        op(s, 0, MOVE, 1, n(1), 7);
        op(s, 0, IN, 0, 0, 0);
        op(s, 0, SUB, 2, 1, n(1));
        s.code(0, IF, 5, 2, 7, 7);
        s.code(0, IF, 1, 0, 7, 7);
        op(s, 0, MOVE, 1, n(2), 7);
        s.code(0, IF, 6, n(0), 7, 7);
        s.code(0, IF, 10, n(-1), 7, 7);
        op(s, 0, NIL, 0, 0, 0);
        s.analyse(0);
        has(s, 0, 1, 1, 1);
        has(s, 0, 3, 2, 0);
        has(s, 0, 6, 1, 2);
        notComeTo(s, 0, 8);
        has(s, 0, 9, 1, 2);
        field(s, 0, 3, OP, NIL);
        field(s, 0, 4, OP, IF);
        field(s, 0, 6, OP, NIL);
        field(s, 0, 7, OP, GO);
        field(s, 0, 7, X, 10);
        field(s, 0, 8, OP, NIL);
    }

    private static void arithmetic() {
        ConstantSpread s = withMain();
        int most = (1 << 28) - 1;
        op(s, 0, ADD, 0, n(most), n(0));
        op(s, 0, ADD, 1, n(most), n(1));
        op(s, 0, SUB, 2, n(-most), n(1));
        op(s, 0, SUB, 3, n(-most), n(2));
        op(s, 0, MUL, 4, n(1 << 27), n(32));
        op(s, 0, MUL, 5, n(1 << 27), n(33));
        op(s, 0, LESS, 1, n(-1), n(0));
        op(s, 0, LESS, 3, n(0), n(0));
        op(s, 0, MUL, 5, n(0), 5);
        op(s, 0, LESS, 1, n(1), n(-1));
        op(s, 0, MOVE, 2, 8 + 5, 6);
        s.analyse(0);
        has(s, 0, 1, 0, most);
        isAny(s, 0, 2, 1);
        has(s, 0, 3, 2, -1 - most);
        isAny(s, 0, 4, 3);
        has(s, 0, 5, 4, 0);
        has(s, 0, 6, 5, 1 << 27);
        has(s, 0, 7, 1, 1);
        has(s, 0, 8, 3, 0);
        has(s, 0, 9, 5, 0);
        has(s, 0, 10, 1, 0);
        has(s, 0, 11, 2, 0);
    }

    private static void anyOperandsGiveAny() {
        ConstantSpread s = withMain();
        op(s, 0, IN, 0, 0, 0);
        op(s, 0, MUL, 1, n(0), 0);
        op(s, 0, SUB, 2, 0, 0);
        op(s, 0, LESS, 3, 0, 0);
        op(s, 0, MOVE, 4, 0, 7);
        s.code(0, w(CALL, 5), 0, 7, 7, 7);
        s.code(0, w(TAB, 4), 0, 7, 7, 7);
        s.analyse(0);
        for (int r = 0; r < 6; r++) {
            if (r != 4) {
                isAny(s, 0, 7, r);
            }
        }
        isAny(s, 0, 5, 4);
        has(s, 0, 7, 4, 0);
        field(s, 0, 6, OP, TAB);
        s.table(0);
        s.analyse(0);
        isAny(s, 0, 7, 4);
        has(s, 0, 0, 0, 0);
    }

    private static void firstPlacesJoinJumps() {
        ConstantSpread s = withMain();
        s.function(3);
        s.code(0, w(CALL, 0), 1, n(1), n(2), n(3));
        op(s, 1, SUB, 0, 0, n(1));
        op(s, 1, MOVE, 4, 4, 7);
        s.code(1, IF, 0, 0, 7, 7);
        s.analyse(0);
        has(s, 1, 0, 0, 1);
        has(s, 1, 1, 0, 0);
        has(s, 1, 3, 2, 3);
        has(s, 1, 0, 3, 0);
        ConstantSpread t = withMain();
        t.function(1);
        t.code(0, w(CALL, 0), 1, n(2), n(2), n(3));
        op(t, 1, SUB, 0, 0, n(1));
        t.code(1, IF, 0, 0, 7, 7);
        t.analyse(0);
        isAny(t, 1, 0, 0);
        due("7: such a call is special in the copy, too", t.analyse(3), 2);
        due("7: copies", t.functions(), 5);
        notComeTo(t, 1, 0);
        notComeTo(t, 3, 0);
        field(t, 0, 0, X, 4);
        threw("11: 1 is gone", IOOBE, () -> t.statement(1, 0, 0));
    }

    private static void tableCalls() {
        ConstantSpread s = withMain();
        s.function(1);
        s.function(2);
        s.function(0);
        s.table(1);
        s.table(2);
        s.table(3);
        s.code(0, w(TAB, 0), n(-2), n(10), n(11), n(12));
        due("7: -2 modulo 3 is 1", s.analyse(0), 2);
        has(s, 2, 0, 0, 10);
        has(s, 2, 0, 1, 11);
        has(s, 2, 0, 2, 0);
        field(s, 0, 0, OP, CALL);
        field(s, 0, 0, X, 2);
        op(s, 0, IN, 1, 0, 0);
        s.code(0, w(TAB, 0), 1, n(10), n(13), n(12));
        due("7: all of the table", s.analyse(6), 4);
        due("7: no special call", s.functions(), 4);
        has(s, 1, 0, 0, 10);
        has(s, 1, 0, 1, 0);
        has(s, 2, 0, 0, 10);
        isAny(s, 2, 0, 1);
        has(s, 3, 0, 0, 0);
        field(s, 0, 2, OP, TAB);
        field(s, 0, 2, X, 1);
    }

    private static void specialCalls() {
        ConstantSpread s = withMain();
        s.function(3);
        op(s, 0, IN, 0, 0, 0);
        s.code(0, w(CALL, 1), 1, n(1), 0, 5);
        s.code(0, w(CALL, 1), 1, n(1), 0, 0);
        s.code(0, w(CALL, 1), 1, n(2), 0, n(0));
        op(s, 0, MOVE, 3, n(1), 7);
        s.code(0, w(CALL, 2), 1, 3, 0, 4);
        s.code(0, w(CALL, 1), 1, n(1), n(1), n(0));
        due("7: no copy", s.analyse(0), 2);
        due("8: no copy", s.functions(), 2);
        due("7: one copy", s.analyse(1), 3);
        field(s, 0, 1, X, 2);
        field(s, 0, 2, X, 1);
        field(s, 0, 3, X, 1);
        field(s, 0, 5, X, 2);
        field(s, 0, 6, X, 1);
        has(s, 2, 0, 0, 1);
        isAny(s, 2, 0, 1);
        has(s, 2, 0, 2, 0);
        due("7: three copies", s.analyse(6), 5);
        due("8: three copies", s.functions(), 5);
        field(s, 0, 2, X, 3);
        field(s, 0, 3, X, 4);
        field(s, 0, 6, X, 1);
        has(s, 1, 0, 1, 1);
    }

    /** Only operands that are parameters count for which calls go to the copy. */
    private static void specialCallsOfFewParameters() {
        ConstantSpread s = withMain();
        s.function(1);
        s.code(0, w(CALL, 0), 1, n(1), n(2), n(3));
        s.code(0, w(CALL, 0), 1, n(1), n(4), 0);
        s.code(0, w(CALL, 0), 1, 0, n(4), 0);
        s.analyse(1);
        field(s, 0, 0, X, 2);
        field(s, 0, 1, X, 2);
        field(s, 0, 2, X, 1);
    }

    /** The copy is made before calls go to it, and its own calls are not come to yet. */
    private static void copiesOfCallsOfThemselves() {
        ConstantSpread s = withMain();
        s.function(1);
        op(s, 0, IN, 1, 0, 0);
        s.code(0, w(CALL, 0), 1, 1, 7, 7);
        s.code(0, w(CALL, 0), 1, n(5), 7, 7);
        s.code(1, w(CALL, 3), 1, n(5), 7, 7);
        due("7: with a copy", s.analyse(1), 3);
        field(s, 0, 1, X, 1);
        field(s, 0, 2, X, 2);
        field(s, 1, 0, X, 2);
        field(s, 2, 0, X, 1);
        due("7: with all", s.analyse(6), 4);
        due("8: two copies", s.functions(), 4);
        field(s, 2, 0, X, 3);
        field(s, 3, 0, X, 2);
    }

    private static void promise8() {
        ConstantSpread s = twoCalls();
        due("8: two", s.functions(), 2);
        s.analyse(6);
        due("8: a copy more", s.functions(), 3);
        s.analyse(6);
        due("8: copies are made anew", s.functions(), 3);
        s.analyse(0);
        due("8: none", s.functions(), 2);
        s.analyse(1);
        s.run(true, 10);
        s.input(1);
        s.empty();
        due("8: it stays", s.functions(), 3);
        s.table(1);
        due("8: it is gone with what is known", s.functions(), 2);
        s.analyse(1);
        s.code(0, NIL, 0, 0, 0, 0);
        due("8: and so here", s.functions(), 2);
    }

    private static void promises9And10() {
        ConstantSpread s = twoCalls();
        threw("9: nothing is known", ISE, () -> s.kind(-1, -1, -1));
        threw("10: nothing is known", ISE, () -> s.number(-1, -1, -1));
        s.analyse(1);
        int[][] none = {{-1, 0, 0}, {3, 0, 0}, {0, -1, 0}, {0, 17, 0}, {0, 0, -1}, {0, 0, 6}, {12, 0, 0},
            {Integer.MIN_VALUE, 0, 0}, {0, Integer.MAX_VALUE, 0}, {0, 0, Integer.MAX_VALUE}};
        for (int[] q : none) {
            threw("9: none", IOOBE, () -> s.kind(q[0], q[1], q[2]));
            threw("10: none", IOOBE, () -> s.number(q[0], q[1], q[2]));
        }
        has(s, 2, 1, 2, 7);
        has(s, 1, 1, 2, 8);
        notComeTo(s, 2, 2);
        notComeTo(s, 2, 16);
        isAny(s, 0, 16, 0);
        isAny(s, 0, 16, 1);
        has(s, 0, 16, 5, 0);
        has(s, 0, 1, 1, 0);
    }

    private static void promise11() {
        ConstantSpread s = withMain();
        s.function(2);
        s.function(0);
        threw("11: nothing is known", ISE, () -> s.statement(9, 9, 9));
        op(s, 0, MOVE, 1, n(-3), 6);
        op(s, 0, SUB, 2, 8 + 1, 1);
        s.code(0, w(IF, 4), 4, 1, 1, 1);
        op(s, 0, OUT, 3, 1, 1);
        s.code(0, w(IF, 5), 2, 2, 2, 2);
        s.code(0, w(CALL, 3), 1, 1, 2, 8 + 1);
        s.code(0, w(IF, 1), 9, 3, 1, 1);
        op(s, 0, IN, 2, 1, 1);
        s.code(0, w(TAB, 5), 1, 1, 8 + 2, 4);
        op(s, 0, RET, 3, 8 + 2, 1);
        s.code(1, w(GO, 1), 1, 1, 1, 1);
        op(s, 2, RET, 1, 1, 1);
        s.analyse(0);
        int[][] want = {
            {MOVE, 1, 0, n(-3), 6, 7}, {SUB, 2, 0, n(-3), n(-3), 7}, {GO, 4, 4, n(-3), 1, 1},
            {NIL, 3, 0, 1, 1, 7}, {NIL, 5, 2, n(0), 2, 2}, {CALL, 3, 1, n(-3), n(0), n(-3)},
            {IF, 1, 9, 3, 1, 1}, {IN, 2, 0, 1, 1, 7}, {MOVE, 5, n(-3), n(0), 8 + 2, n(0)},
            {RET, 3, 0, 8 + 2, 1, 7}};
        for (int i = 0; i < want.length; i++) {
            for (int what = 0; what < 6; what++) {
                field(s, 0, i, what, want[i][what]);
            }
        }
        field(s, 1, 0, A, 1);
        threw("11: gone", IOOBE, () -> s.statement(2, 0, 0));
        int[][] none = {{-1, 0}, {3, 0}, {0, -1}, {0, 10}, {1, 1}, {0, Integer.MAX_VALUE}};
        for (int[] q : none) {
            threw("11: none", IOOBE, () -> s.statement(q[0], q[1], 9));
        }
        threw("11: what", IAE, () -> s.statement(0, 0, -1));
        threw("11: what", IAE, () -> s.statement(0, 0, 6));
        s.table(2);
        s.analyse(0);
        field(s, 0, 8, OP, CALL);
        field(s, 0, 8, X, 2);
        field(s, 0, 8, A, n(-3));
        field(s, 0, 8, B, 8 + 2);
        field(s, 0, 8, C, n(0));
    }

    private static void promise12() {
        ConstantSpread s = new ConstantSpread();
        threw("12: both are wrong", IAE, () -> s.run(true, -1));
        threw("12: no main", ISE, () -> s.run(false, 0));
        s.function(0);
        threw("12: nothing is known", ISE, () -> s.run(true, 0));
        threw("12: both are wrong", IAE, () -> s.run(true, 3001));
        due("12: an END does not count", s.run(false, 0), 1);
        op(s, 0, MOVE, 0, n(1 << 27), 7);
        op(s, 0, MUL, 0, 0, n(33));
        op(s, 0, OUT, 0, 0, 0);
        op(s, 0, MUL, 0, 0, n(8));
        op(s, 0, OUT, 0, 0, 0);
        op(s, 0, ADD, 0, 0, n(-5));
        op(s, 0, LESS, 1, 0, n(7));
        op(s, 0, SUB, 1, 1, 0);
        op(s, 0, OUT, 0, 1, 0);
        due("12: too few", s.run(false, 8), 0);
        due("13: done", s.done(), 8);
        due("12: just enough", s.run(false, 9), 1);
        due("15: wraps", s.output(0), 1 << 27);
        due("15: wraps", s.output(1), 1 << 30);
        due("15: less", s.output(2), 5 - (1 << 30));
        op(s, 0, RET, 0, 7, 7);
        op(s, 0, OUT, 0, 7, 7);
        due("12: before the RETURN", s.run(false, 9), 0);
        due("12: RETURN", s.run(false, 10), 1);
        due("13: done", s.done(), 10);
        due("14: none behind it", s.outputs(), 3);
        due("12: none", s.run(false, 0), 0);
        due("14: none", s.outputs(), 0);
    }

    private static void runsJumpAndCall() {
        ConstantSpread s = withMain();
        s.function(3);
        s.function(1);
        s.table(1);
        s.table(2);
        op(s, 0, MOVE, 0, n(3), 7);
        op(s, 0, OUT, 0, 0, 7);
        op(s, 0, SUB, 0, 0, n(1));
        s.code(0, IF, 1, 0, 7, 7);
        s.code(0, w(TAB, 1), n(-2), n(1), n(2), n(3));
        op(s, 0, OUT, 0, 1, 7);
        s.code(0, w(TAB, 1), n(5), n(1), n(2), n(3));
        op(s, 0, OUT, 0, 1, 7);
        s.code(0, GO, 16, 7, 7, 7);
        op(s, 0, OUT, 0, n(99), 7);
        op(s, 1, ADD, 3, 1, 3);
        op(s, 1, MUL, 3, 3, 2);
        op(s, 1, ADD, 3, 3, 0);
        op(s, 1, ADD, 3, 3, 4);
        op(s, 1, RET, 0, 3, 7);
        op(s, 2, OUT, 0, 0, 7);
        op(s, 2, OUT, 0, 1, 7);
        s.analyse(3);
        for (int round = 0; round < 2; round++) {
            due("12: jumps", s.run(round == 1, 3000), 1);
            int[] want = {3, 2, 1, 7, 1, 0, 0};
            due("14: outputs", s.outputs(), want.length);
            for (int i = 0; i < want.length && i < s.outputs(); i++) {
                due("15: output " + i, s.output(i), want[i]);
            }
            due("13: done", s.done(), 1 + 9 + 5 + 5 + 2);
        }
    }

    private static void depths() {
        ConstantSpread s = withMain();
        s.function(1);
        s.code(0, w(CALL, 1), 1, n(9), 7, 7);
        op(s, 0, OUT, 0, 1, 7);
        s.code(1, IF, 3, 0, 7, 7);
        op(s, 1, MOVE, 2, n(77), 7);
        op(s, 1, RET, 0, 2, 7);
        op(s, 1, SUB, 0, 0, n(1));
        s.code(1, w(CALL, 3), 1, 0, 7, 7);
        op(s, 1, RET, 0, 3, 7);
        due("12: a call in ten others", s.run(false, 3000), 1);
        due("15: from the depth", s.output(0), 77);
        due("16: calls", s.calls(1), 10);
        ConstantSpread t = withMain();
        op(t, 0, NIL, 0, 0, 0);
        t.code(0, w(CALL, 1), 0, n(9), 7, 7);
        due("12: a call in eleven others", t.run(false, 3000), 2);
        due("16: calls", t.calls(0), 11);
        due("13: the last call is not done", t.done(), 21);
        due("12: before it", t.run(false, 21), 0);
        due("12: at it", t.run(false, 22), 2);
        ConstantSpread u = withMain();
        u.code(0, w(TAB, 1), 1, n(9), 7, 7);
        due("12: nothing is called", u.run(false, 3000), 1);
        u.table(0);
        due("12: a table call in eleven others", u.run(false, 3000), 2);
        due("16: calls", u.calls(0), 11);
        due("13: the last call is not done", u.done(), 10);
    }

    private static void outputsUpTo40() {
        ConstantSpread s = withMain();
        op(s, 0, ADD, 0, 0, n(1));
        op(s, 0, OUT, 0, 0, 7);
        op(s, 0, LESS, 1, 0, n(40));
        s.code(0, IF, 0, 1, 7, 7);
        due("12: 40 outputs", s.run(false, 3000), 1);
        due("14: 40 outputs", s.outputs(), 40);
        due("15: the 40th", s.output(39), 40);
        threw("15: a 41st", IOOBE, () -> s.output(40));
        op(s, 0, OUT, 0, 7, 7);
        due("12: a 41st output", s.run(false, 3000), 2);
        due("14: 40 outputs", s.outputs(), 40);
        due("13: the 41st is not done", s.done(), 160);
    }

    private static void promises13To15() {
        ConstantSpread s = withMain();
        s.code(0, GO, 0, 0, 0, 0);
        due("12: on and on", s.run(false, 3000), 0);
        due("13: done", s.done(), 3000);
        threw("12: too many", IAE, () -> s.run(false, 3001));
        threw("12: no new one", ISE, () -> s.run(true, 1));
        due("13: the latest run stays", s.done(), 3000);
        ConstantSpread t = withMain();
        op(t, 0, OUT, 0, n(-4), 7);
        t.run(false, 1);
        due("15: output", t.output(0), -4);
        threw("15: 1", IOOBE, () -> t.output(1));
        threw("15: -1", IOOBE, () -> t.output(-1));
        t.function(2);
        t.analyse(0);
        t.empty();
        due("13: the run is still the latest", t.done(), 1);
        due("14: the run is still the latest", t.outputs(), 1);
        due("15: the run is still the latest", t.output(0), -4);
        due("16: the run is still the latest", t.calls(0), 1);
        t.run(true, 0);
        due("14: no output", t.outputs(), 0);
        threw("15: 0", IOOBE, () -> t.output(0));
    }

    private static void promises16To18() {
        ConstantSpread s = twoCalls();
        s.function(1);
        s.run(false, 100);
        due("16: main", s.calls(0), 1);
        due("16: 1", s.calls(1), 2);
        due("16: 2", s.calls(2), 0);
        due("17: the same", s.same(1, 0), true);
        due("17: not the same", s.same(1, 1), false);
        due("17: no such parameter is always 0", s.same(1, 2), true);
        due("17: never called", s.same(2, 0), false);
        due("17: no such function", s.same(11, 2), false);
        due("18: latest", s.latest(1, 0), 3);
        due("18: latest", s.latest(1, 1), 5);
        due("18: no such parameter", s.latest(1, 2), 0);
        due("18: never called", s.latest(2, 0), 0);
        s.analyse(6);
        s.run(true, 2);
        due("16: the copy", s.calls(3), 1);
        due("16: not the other", s.calls(1), 0);
        due("18: the copy", s.latest(3, 1), 4);
        due("18: not the other", s.latest(1, 1), 0);
        s.run(false, 100);
        due("16: the program of before knows no copy", s.calls(3), 0);
        due("16: the program of before", s.calls(1), 2);
        s.run(false, 1);
        due("17: of the latest run alone", s.same(1, 1), true);
        for (int f : new int[] {-1, 12, Integer.MAX_VALUE, Integer.MIN_VALUE}) {
            threw("16: " + f, IOOBE, () -> s.calls(f));
            threw("17: " + f, IOOBE, () -> s.same(f, 0));
            threw("18: " + f, IOOBE, () -> s.latest(f, 0));
        }
        for (int p : new int[] {-1, 3, Integer.MAX_VALUE, Integer.MIN_VALUE}) {
            threw("17: " + p, IOOBE, () -> s.same(0, p));
            threw("18: " + p, IOOBE, () -> s.latest(0, p));
        }
    }

    /** The first call's parameters and the last one's are the same, but not the one between. */
    private static void sameInAll() {
        ConstantSpread s = withMain();
        s.function(1);
        s.code(0, w(CALL, 0), 1, n(0), 7, 7);
        s.code(0, w(CALL, 0), 1, n(1), 7, 7);
        s.code(0, w(CALL, 0), 1, n(0), 7, 7);
        s.run(false, 1);
        due("17: one call", s.same(1, 0), true);
        s.run(false, 3);
        due("17: three calls", s.same(1, 0), false);
        due("18: latest", s.latest(1, 0), 0);
        s.run(false, 2);
        due("18: latest", s.latest(1, 0), 1);
    }

    public static void main(String[] args) {
        face();
        promise1();
        promise2();
        promise2DropsCopies();
        promise3();
        promise3Operands();
        promise3KnowsNoCopies();
        promise4();
        promises5And6();
        promise7();
        joins();
        least();
        arithmetic();
        anyOperandsGiveAny();
        firstPlacesJoinJumps();
        tableCalls();
        specialCalls();
        specialCallsOfFewParameters();
        copiesOfCallsOfThemselves();
        promise8();
        promises9And10();
        promise11();
        promise12();
        runsJumpAndCall();
        depths();
        outputsUpTo40();
        promises13To15();
        promises16To18();
        sameInAll();
        System.out.println(wrong == 0 ? "all answers are as due" : wrong + " answers are not as due");
        if (wrong != 0) {
            System.exit(1);
        }
    }
}
