import java.io.IOException;
import java.nio.file.Files;
import java.nio.file.Path;
import java.util.ArrayDeque;
import java.util.Deque;
import java.util.List;
import java.util.regex.Matcher;
import java.util.regex.Pattern;

/**
 * What of LANGUAGE.md can be seen in the lines of the program: no word or sign that its rules leave
 * out, and the sizes of rule 11. FaceTest has rule 1. Run from the project's directory.
 */
public final class LanguageTest {
    private static final Path PROGRAM = Path.of("src/main/java/ProgramSlices.java");

    /** Rule, and what may not stand in a line once its comment is taken off. */
    private static final String[][] LEFT_OUT = {
        {"2", "->"}, {"2", "::"}, {"3", "\\bdouble\\b"}, {"3", "\\bfloat\\b"}, {"3", "\\]\\s*\\[\\s*\\]\\s*\\["},
        {"5", "static\\s*\\{"}, {"6", "\\bthrow"}, {"6", "\\btry\\b"}, {"6", "\\bcatch\\b"}, {"6", "\\bfinally\\b"},
        {"6", "\\bsynchronized\\b"}, {"6", "\\bassert\\b"}, {"6", "\\bequals\\b"}, {"6", "\\bhashCode\\b"},
        {"6", "\\btoString\\b"}, {"4", "Exact\\s*\\("}, {"10", "\""}, {"13", "\\bSystem\\.(?!arraycopy)"},
        {"13", "\\bRandom\\b"}, {"13", "\\bThread\\b"}, {"4", "\\bMath\\.random"}, {"3", "\\bObject\\b"},
        {"2", "\\bthis\\b(?!\\.\\w+ =)"}, {"9", "\\bwhile\\s*\\(\\s*true"}, {"9", "for\\s*\\(\\s*;\\s*;"}
    };

    private static final Pattern METHOD =
            Pattern.compile("^( {4}| {8})[a-z][\\w<>\\[\\] ]*\\(([^)]*)\\) \\{$");
    private static final Pattern CLASS = Pattern.compile("^( *)(private|public)[a-z ]* class (\\w+) \\{$");
    private static final Pattern FIELD = Pattern.compile("^ {4,8}(?!return)[a-z][\\w\\[\\]<> ]* \\w+( = [^;]*)?;$");
    private static final Pattern IMPORT = Pattern.compile("^import java\\.util\\.(Arrays|ArrayList|List|Iterator);$");

    private LanguageTest() {
    }

    public static void main(String[] args) throws IOException {
        List<String> lines = Files.readAllLines(PROGRAM);
        leftOut(lines);
        imports(lines);
        methods(lines);
        classes(lines);
        onlyPlainCharacters(lines);
        Expect.finish();
    }

    private static String withoutComment(String line) {
        String text = line.strip();
        if (text.startsWith("/**") || text.startsWith("*")) {
            return "";
        }
        int comment = line.indexOf("//");
        return comment < 0 ? line : line.substring(0, comment);
    }

    private static void leftOut(List<String> lines) {
        for (int i = 0; i < lines.size(); i++) {
            String line = withoutComment(lines.get(i));
            for (String[] rule : LEFT_OUT) {
                boolean found = Pattern.compile(rule[1]).matcher(line).find();
                Expect.same("rule " + rule[0] + ", line " + (i + 1) + ": " + line.strip(), found, false);
            }
        }
    }

    private static void imports(List<String> lines) {
        for (String line : lines) {
            Expect.same("no package", line.startsWith("package"), false);
            if (line.startsWith("import")) {
                Expect.same("rule 4: " + line, IMPORT.matcher(line).matches(), true);
            }
        }
    }

    /** A method ends at the brace that stands as far in as it began. */
    private static void methods(List<String> lines) {
        int found = 0;
        for (int i = 0; i < lines.size(); i++) {
            Matcher method = METHOD.matcher(lines.get(i));
            if (!method.matches()) {
                continue;
            }
            found++;
            String end = method.group(1) + "}";
            int last = i;
            while (last < lines.size() && !lines.get(last).equals(end)) {
                last++;
            }
            String parameters = method.group(2);
            int count = parameters.isEmpty() ? 0 : parameters.split(",").length;
            Expect.same("rule 11, at most 60 lines: " + lines.get(i).strip(), last - i + 1 <= 60, true);
            Expect.same("rule 11, at most seven parameters: " + lines.get(i).strip(), count <= 7, true);
        }
        Expect.same("methods were found", found > 20, true);
    }

    private static void classes(List<String> lines) {
        int count = 0;
        Deque<String> open = new ArrayDeque<>();
        int[] fields = new int[lines.size()];
        for (String line : lines) {
            Matcher type = CLASS.matcher(line);
            if (type.matches()) {
                open.push(type.group(1) + "}");
                count++;
                fields[open.size()] = 0;
                Expect.same("rule 2, static: " + line, open.size() == 1 || line.contains(" static "), true);
            } else if (!open.isEmpty() && line.equals(open.peek())) {
                Expect.same("rule 11, at most 20 fields", fields[open.size()] <= 20, true);
                open.pop();
            } else if (FIELD.matcher(line).matches() && isAtDepth(line, open.size())) {
                fields[open.size()] += line.contains("static final") ? 0 : 1;
                Expect.same("rule 5: " + line, line.contains(" static ") && !line.contains(" final "), false);
            }
        }
        Expect.same("rule 11, at most twelve classes", count <= 12, true);
        Expect.same("classes were found", count > 1, true);
        Expect.same("all classes ended", open.size(), 0);
    }

    private static boolean isAtDepth(String line, int depth) {
        return line.length() - line.stripLeading().length() == 4 * depth;
    }

    private static void onlyPlainCharacters(List<String> lines) {
        for (String line : lines) {
            Expect.same("rule 3, characters: " + line, line.chars().allMatch(c -> c >= 32 && c < 127), true);
        }
    }
}
