import java.io.IOException;
import java.nio.file.Files;
import java.nio.file.Path;
import java.util.List;
import java.util.regex.Matcher;
import java.util.regex.Pattern;

/** The rules of LANGUAGE.md that can be seen in the text; run from the project's folder. */
public final class ConstantSpreadLanguage {
    private static final List<String> RULED_OUT = List.of("->", "::", "\\btry\\b", "\\bcatch\\b",
            "\\bfinally\\b", "\\bsynchronized\\b", "\\bassert\\b", "Exact\\b", "^import ", "^package ",
            "\\bnull\\b", "\\bSystem\\.(?!arraycopy)", "\\bThread\\b", "\\bRandom\\b", "\\bstatic \\{",
            "\\bstatic (?!final )\\w+(\\[\\])? \\w+( =|;)");
    private static final Pattern METHOD =
            Pattern.compile("^ {4,8}(?:\\w+ )*[\\w\\[\\]]+ ?\\w*\\(([^)]*)\\)(?: \\{)?$");
    private static int wrong = 0;

    private static void found(int line, String what) {
        wrong++;
        System.out.println("line " + (line + 1) + ": " + what);
    }

    private static void lookForRuledOut(List<String> lines) {
        for (int i = 0; i < lines.size(); i++) {
            String line = lines.get(i);
            String bare = line.replaceAll("\"[^\"]*\"|//.*|^ *(/\\*\\*|\\*).*", "");
            for (String no : RULED_OUT) {
                if (Pattern.compile(no).matcher(bare).find()) {
                    found(i, "has " + no);
                }
            }
            // Rows are made in constructors alone, so that calls make nothing but exceptions.
            boolean isMade = bare.matches(".*\\bnew .*");
            if (isMade && !bare.contains("throw new ") && !bare.matches(" {8,12}\\w+ = new \\w+[\\[(].*;")) {
                found(i, "makes an object: " + line.strip());
            }
        }
    }

    private static void lookAtMethods(List<String> lines) {
        for (int i = 0; i < lines.size(); i++) {
            Matcher m = METHOD.matcher(lines.get(i));
            if (!m.matches()) {
                continue;
            }
            if (m.group(1).split(",").length > 7) {
                found(i, "more than seven parameters");
            }
            String end = lines.get(i).replaceAll("\\S.*", "") + "}";
            int last = i;
            while (last < lines.size() && !lines.get(last).equals(end)) {
                last++;
            }
            if (last - i > 60) {
                found(i, "a method of more than sixty lines");
            }
        }
    }

    public static void main(String[] args) throws IOException {
        List<String> lines = Files.readAllLines(Path.of("src/main/java/ConstantSpread.java"));
        lookForRuledOut(lines);
        lookAtMethods(lines);
        long classes = lines.stream().filter(l -> l.matches(" *(public|private) .*class .*")).count();
        if (classes > 12) {
            found(0, classes + " classes");
        }
        System.out.println(wrong == 0 ? "no rule is broken" : wrong + " places break a rule");
        if (wrong != 0) {
            System.exit(1);
        }
    }
}
