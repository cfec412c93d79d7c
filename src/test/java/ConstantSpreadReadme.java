import java.io.IOException;
import java.lang.reflect.InvocationTargetException;
import java.lang.reflect.Method;
import java.nio.file.Files;
import java.nio.file.Path;
import java.util.regex.Matcher;
import java.util.regex.Pattern;

/** The example of README.md answers what it says there; run from the project's folder. */
public final class ConstantSpreadReadme {
    private static final Pattern CALL =
            Pattern.compile("s\\.(\\w+)\\(([^)]*)\\);(?: +// (?:(-?\\d+)(?::.*)?|.*))?");
    private static final String FIRST = "ConstantSpread s = new ConstantSpread();";
    private static int wrong = 0;

    private static void found(String what) {
        wrong++;
        System.out.println(what);
    }

    private static String example() throws IOException {
        String text = Files.readString(Path.of("README.md"));
        int start = text.indexOf("```java\n") + "```java\n".length();
        return text.substring(start, text.indexOf("```", start));
    }

    /** The example's arguments are numbers, joined by nothing but | and the tighter <<. */
    private static Object valueOf(String argument) {
        if (argument.equals("true") || argument.equals("false")) {
            return argument.equals("true");
        }
        int value = 0;
        for (String part : argument.split("\\|")) {
            String[] shifted = part.split("<<");
            int number = Integer.parseInt(shifted[0].strip());
            for (int i = 1; i < shifted.length; i++) {
                number <<= Integer.parseInt(shifted[i].strip());
            }
            value |= number;
        }
        return value;
    }

    private static Object answer(ConstantSpread s, String name, String arguments)
            throws ReflectiveOperationException {
        String[] texts = arguments.isEmpty() ? new String[0] : arguments.split(",");
        Object[] values = new Object[texts.length];
        for (int i = 0; i < texts.length; i++) {
            values[i] = valueOf(texts[i].strip());
        }
        for (Method m : ConstantSpread.class.getMethods()) {
            if (m.getName().equals(name) && m.getParameterCount() == values.length) {
                return m.invoke(s, values);
            }
        }
        throw new NoSuchMethodException(name);
    }

    private static boolean isTold(ConstantSpread s, String line) {
        Matcher call = CALL.matcher(line);
        if (!call.matches()) {
            found("no call of the face: " + line);
            return false;
        }
        try {
            Object got = answer(s, call.group(1), call.group(2));
            if (call.group(3) != null && !call.group(3).equals(String.valueOf(got))) {
                found(line + " answered " + got);
            }
        } catch (InvocationTargetException e) {
            found(line + " threw " + e.getCause());
        } catch (ReflectiveOperationException e) {
            found(line + " is no call of the face: " + e);
        }
        return call.group(3) != null;
    }

    public static void main(String[] args) throws IOException {
        ConstantSpread s = new ConstantSpread();
        String[] lines = example().split("\n");
        if (!lines[0].equals(FIRST)) {
            found("the example begins with " + lines[0]);
        }
        int told = 0;
        for (int i = 1; i < lines.length; i++) {
            told += isTold(s, lines[i]) ? 1 : 0;
        }
        if (told == 0) {
            found("the example tells no answer");
        }
        System.out.println(wrong == 0 ? "all answers are as due" : wrong + " answers are wrong");
        if (wrong != 0) {
            System.exit(1);
        }
    }
}
