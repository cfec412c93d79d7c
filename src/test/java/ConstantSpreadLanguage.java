import java.io.IOException;
import java.lang.reflect.Field;
import java.lang.reflect.Method;
import java.lang.reflect.Modifier;
import java.nio.file.Files;
import java.nio.file.Path;
import java.util.List;
import java.util.Set;
import java.util.TreeSet;
import java.util.regex.Matcher;
import java.util.regex.Pattern;

/** The rules of LANGUAGE.md that text and class file show; run from the project's folder. */
public final class ConstantSpreadLanguage {
    private static final List<String> RULED_OUT = List.of("->", "::", "\\btry\\b", "\\bcatch\\b",
            "\\bfinally\\b", "\\bsynchronized\\b", "\\bassert\\b", "Exact\\b", "^import ", "^package ",
            "\\bnull\\b", "\\bSystem\\.(?!arraycopy)", "\\bThread\\b", "\\bRandom\\b", "\\bstatic \\{",
            "\\bstatic (?!final )\\w+(\\[\\])? \\w+( =|;)");
    private static final Pattern METHOD =
            Pattern.compile("^ {4,8}(?:\\w+ )*[\\w\\[\\]]+ ?\\w*\\(([^)]*)\\)(?: \\{)?$");
    private static final Set<Class<?>> CONSTANT_TYPES =
            Set.of(int.class, long.class, boolean.class, char.class, String.class,
                    int[].class, long[].class, char[].class, byte[].class);
    private static int wrong = 0;

    private static void found(int line, String what) {
        found("line " + (line + 1) + ": " + what);
    }

    private static void found(String what) {
        wrong++;
        System.out.println(what);
    }

    private static void lookForRuledOut(List<String> lines) {
        for (int i = 0; i < lines.size(); i++) {
            String line = lines.get(i);
            String bare = line.replaceAll("\"[^\"]*\"|//.*|^ *(/\\*\\*|\\*).*", "");
            for (String no : RULED_OUT) {
                if (Pattern.compile(no).matcher(bare).find()) {
                    found(i, "has " + no);
                }
            }
            // Rows are made in constructors alone, so that calls make nothing but exceptions.
            boolean isMade = bare.matches(".*\\bnew .*");
            if (isMade && !bare.contains("throw new ") && !bare.matches(" {8,12}\\w+ = new \\w+[\\[(].*;")) {
                found(i, "makes an object: " + line.strip());
            }
        }
    }

    private static void lookAtMethods(List<String> lines) {
        for (int i = 0; i < lines.size(); i++) {
            Matcher m = METHOD.matcher(lines.get(i));
            if (!m.matches()) {
                continue;
            }
            if (m.group(1).split(",").length > 7) {
                found(i, "more than seven parameters");
            }
            String end = lines.get(i).replaceAll("\\S.*", "") + "}";
            int last = i;
            while (last < lines.size() && !lines.get(last).equals(end)) {
                last++;
            }
            if (last - i > 60) {
                found(i, "a method of more than sixty lines");
            }
        }
    }

    private static void lookAtClass(Class<?> c, Set<String> publicNames) {
        for (Method m : c.getDeclaredMethods()) {
            boolean isFace = c == ConstantSpread.class && Modifier.isPublic(m.getModifiers());
            if (!isFace && publicNames.contains(m.getName())) {
                found(c.getName() + "." + m.getName() + " bears the name of a public method");
            }
        }
        int fields = 0;
        for (Field f : c.getDeclaredFields()) {
            if (!Modifier.isStatic(f.getModifiers())) {
                fields++;
            } else if (!Modifier.isFinal(f.getModifiers()) || !CONSTANT_TYPES.contains(f.getType())) {
                found(c.getName() + "." + f.getName() + " is static state");
            }
        }
        if (fields > 20) {
            found(c.getName() + " has " + fields + " fields");
        }
    }

    private static void lookAtClasses() {
        Set<String> publicNames = new TreeSet<>();
        for (Method m : ConstantSpread.class.getDeclaredMethods()) {
            if (Modifier.isPublic(m.getModifiers())) {
                publicNames.add(m.getName());
            }
        }
        lookAtClass(ConstantSpread.class, publicNames);
        for (Class<?> c : ConstantSpread.class.getDeclaredClasses()) {
            int modifiers = c.getModifiers();
            if (!Modifier.isStatic(modifiers) || Modifier.isPublic(modifiers)
                    || Modifier.isProtected(modifiers)) {
                found(c.getName() + " is not static and hidden");
            }
            lookAtClass(c, publicNames);
        }
    }

    public static void main(String[] args) throws IOException {
        List<String> lines = Files.readAllLines(Path.of("src/main/java/ConstantSpread.java"));
        lookForRuledOut(lines);
        lookAtMethods(lines);
        lookAtClasses();
        long classes = lines.stream().filter(l -> l.matches(" *(public|private) .*class .*")).count();
        if (classes > 12) {
            found(0, classes + " classes");
        }
        System.out.println(wrong == 0 ? "no rule is broken" : wrong + " places break a rule");
        if (wrong != 0) {
            System.exit(1);
        }
    }
}
