import java.io.IOException;
import java.lang.reflect.InvocationTargetException;
import java.lang.reflect.Method;
import java.lang.reflect.Modifier;
import java.nio.file.Files;
import java.nio.file.Path;
import java.util.Arrays;
import java.util.Comparator;
import java.util.LinkedHashMap;
import java.util.Map;

/**
 * Runs a class of tests that are each for a sentence of the document, and looks whether all words of
 * the parts that the class is for have a test.
 */
abstract class SentenceTest {
    static final int MOVE = 0, ADD = 1, SUB = 2, MUL = 3, LESS = 4, IN = 5, OUT = 6, IF = 7, GO = 8,
            RET = 9, CALL = 10, TAB = 11, NIL = 12;
    static final int OP = 0, D = 1, X = 2, A = 3, B = 4, C = 5;
    static final int MOST = (1 << 28) - 1;
    static final int LEAST = -(1 << 28);
    static final int MIN = Integer.MIN_VALUE;
    static final int MAX = Integer.MAX_VALUE;
    static final String IAE = "IllegalArgumentException";
    static final String ISE = "IllegalStateException";
    static final String IOOBE = "IndexOutOfBoundsException";
    static final String FINE = "nothing";

    private static final Path DOCUMENT = Path.of("../shared/DOC.md");
    private static int wrong = 0;
    private static String current = "";

    interface Act {
        void go();
    }

    private static void tell(String what) {
        wrong++;
        System.out.println(current + ": " + what);
    }

    static void due(String what, long got, long want) {
        if (got != want) {
            tell(what + " answered " + got + ", due is " + want);
        }
    }

    static void due(String what, boolean got, boolean want) {
        if (got != want) {
            tell(what + " answered " + got + ", due is " + want);
        }
    }

    static void threw(String what, String want, Act act) {
        String got = outcome(act);
        if (!got.equals(want)) {
            tell(what + " threw " + got + ", due is " + want);
        }
    }

    private static String outcome(Act act) {
        try {
            act.go();
        } catch (RuntimeException e) {
            return e.getClass().getSimpleName();
        }
        return FINE;
    }

    /** The call throws, and what can be asked is as it was. */
    static void refused(ConstantSpread s, String what, String want, Act act) {
        String before = look(s);
        threw(what, want, act);
        String after = look(s);
        if (!after.equals(before)) {
            tell(what + " was refused, but changed " + before + " to " + after);
        }
    }

    /** A few answers of each sort; not all, as an object is promised 512 calls. */
    private static String look(ConstantSpread s) {
        StringBuilder text = new StringBuilder();
        text.append(s.functions()).append(' ').append(s.done()).append(' ').append(s.outputs());
        text.append(' ').append(s.calls(0)).append(' ').append(s.calls(1));
        text.append(' ').append(s.same(1, 0)).append(' ').append(s.latest(1, 0));
        text.append(' ').append(outcome(() -> text.append(s.kind(0, 16, 0))));
        text.append(' ').append(outcome(() -> text.append(s.statement(0, 0, 0))));
        return text.toString();
    }

    static int n(int number) {
        return (number << 3) | 7;
    }

    static int w(int operation, int d) {
        return (d << 4) | operation;
    }

    /** Main, and functions of so many parameters. */
    static ConstantSpread program(int... parameters) {
        ConstantSpread s = new ConstantSpread();
        s.function(0);
        for (int p : parameters) {
            s.function(p);
        }
        return s;
    }

    static int op(ConstantSpread s, int f, int operation, int d, int a, int b) {
        return s.code(f, w(operation, d), 0, a, b, 7);
    }

    static int move(ConstantSpread s, int f, int d, int a) {
        return op(s, f, MOVE, d, a, 7);
    }

    static int in(ConstantSpread s, int f, int d) {
        return op(s, f, IN, d, 7, 7);
    }

    static int out(ConstantSpread s, int f, int a) {
        return op(s, f, OUT, 0, a, 7);
    }

    static int ret(ConstantSpread s, int f, int a) {
        return op(s, f, RET, 0, a, 7);
    }

    static int nil(ConstantSpread s, int f) {
        return op(s, f, NIL, 0, 7, 7);
    }

    static int onlyIf(ConstantSpread s, int f, int a, int x) {
        return s.code(f, w(IF, 0), x, a, 7, 7);
    }

    static int go(ConstantSpread s, int f, int x) {
        return s.code(f, w(GO, 0), x, 7, 7, 7);
    }

    static int call(ConstantSpread s, int f, int d, int x, int... operands) {
        return s.code(f, w(CALL, d), x, or7(operands, 0), or7(operands, 1), or7(operands, 2));
    }

    static int tableCall(ConstantSpread s, int f, int d, int x, int... operands) {
        return s.code(f, w(TAB, d), x, or7(operands, 0), or7(operands, 1), or7(operands, 2));
    }

    private static int or7(int[] operands, int i) {
        return i < operands.length ? operands[i] : 7;
    }

    static void has(ConstantSpread s, int f, int place, int register, int number) {
        due("kind(" + f + ", " + place + ", " + register + ")", s.kind(f, place, register), 1);
        due("number(" + f + ", " + place + ", " + register + ")", s.number(f, place, register), number);
    }

    static void isAny(ConstantSpread s, int f, int place, int register) {
        due("kind(" + f + ", " + place + ", " + register + ")", s.kind(f, place, register), 2);
    }

    static void notComeTo(ConstantSpread s, int f, int place) {
        for (int r = 0; r < 6; r++) {
            due("kind(" + f + ", " + place + ", " + r + ")", s.kind(f, place, r), 0);
        }
    }

    static void field(ConstantSpread s, int f, int i, int what, int want) {
        due("statement(" + f + ", " + i + ", " + what + ")", s.statement(f, i, what), want);
    }

    static void fields(ConstantSpread s, int f, int i, int... want) {
        for (int what = 0; what < want.length; what++) {
            field(s, f, i, what, want[what]);
        }
    }

    static void outputsAre(ConstantSpread s, int... want) {
        due("outputs()", s.outputs(), want.length);
        for (int i = 0; i < want.length && i < s.outputs(); i++) {
            due("output(" + i + ")", s.output(i), want[i]);
        }
    }

    /** Nothing is known, and there is no new program. */
    static void nothingIsKnown(ConstantSpread s) {
        threw("kind(0, 0, 0)", ISE, () -> s.kind(0, 0, 0));
        threw("number(0, 0, 0)", ISE, () -> s.number(0, 0, 0));
        threw("statement(0, 0, 0)", ISE, () -> s.statement(0, 0, 0));
        threw("run(true, 0)", ISE, () -> s.run(true, 0));
    }

    static void runAll(Class<?> tests, String... headings) {
        Method[] methods = tests.getDeclaredMethods();
        Arrays.sort(methods, Comparator.comparing(Method::getName));
        for (Method m : methods) {
            if (m.isAnnotationPresent(Sentence.class)) {
                runOne(m);
            } else if (looksLikeTest(m)) {
                current = m.getName();
                tell("has no sentence");
            }
        }
        current = "the document";
        if (Files.exists(DOCUMENT)) {
            lookAtDocument(methods, headings);
        } else {
            System.out.println(DOCUMENT + " is not there: whether all its words have a test was not seen");
        }
        System.out.println(wrong == 0 ? "all answers are as due" : wrong + " answers are not as due");
        if (wrong != 0) {
            System.exit(1);
        }
    }

    private static boolean looksLikeTest(Method m) {
        return !m.isSynthetic() && m.getParameterCount() == 0 && m.getReturnType() == void.class
                && Modifier.isStatic(m.getModifiers());
    }

    private static void runOne(Method m) {
        Sentence sentence = m.getAnnotation(Sentence.class);
        current = m.getName() + " (" + sentence.of() + ": \"" + sentence.says() + "\")";
        try {
            m.setAccessible(true);
            m.invoke(null);
        } catch (InvocationTargetException e) {
            tell("a call threw " + e.getCause());
        } catch (IllegalAccessException e) {
            tell("could not be run");
        }
    }

    private static void lookAtDocument(Method[] methods, String[] headings) {
        Map<String, String> parts = partsOfDocument();
        for (String heading : headings) {
            String part = parts.getOrDefault(heading, "");
            if (part.isEmpty()) {
                tell("has no part " + heading);
                continue;
            }
            boolean[] isTested = new boolean[part.length()];
            for (Method m : methods) {
                Sentence sentence = m.getAnnotation(Sentence.class);
                if (sentence != null && sentence.of().equals(heading)) {
                    mark(part, sentence.says(), isTested);
                }
            }
            tellUntested(heading, part, isTested);
        }
    }

    private static void mark(String part, String words, boolean[] isTested) {
        int at = part.indexOf(words);
        if (at < 0) {
            tell("does not say: " + words);
        }
        while (at >= 0) {
            Arrays.fill(isTested, at, at + words.length(), true);
            at = part.indexOf(words, at + 1);
        }
    }

    private static void tellUntested(String heading, String part, boolean[] isTested) {
        StringBuilder untested = new StringBuilder();
        for (int i = 0; i < part.length(); i++) {
            untested.append(isTested[i] ? ' ' : part.charAt(i));
        }
        String words = untested.toString().trim().replaceAll(" +", " ");
        if (!words.isEmpty()) {
            tell("has words of " + heading + " that no test is for: " + words);
        }
    }

    /** By heading, each on one line, without the signature. */
    private static Map<String, String> partsOfDocument() {
        Map<String, String> parts = new LinkedHashMap<>();
        String heading = "";
        try {
            for (String line : Files.readAllLines(DOCUMENT)) {
                if (line.startsWith("#")) {
                    heading = line.replaceFirst("^#+ ", "").replaceFirst(":.*", "");
                } else if (!line.startsWith("```")) {
                    parts.merge(heading, line, (a, b) -> a + " " + b);
                }
            }
        } catch (IOException e) {
            tell("cannot be read: " + e);
        }
        parts.replaceAll((h, text) ->
                text.trim().replaceAll("\\s+", " ").replaceFirst("^`[^`]*`: ", ""));
        return parts;
    }
}
