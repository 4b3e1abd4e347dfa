import java.io.IOException;
import java.lang.reflect.InvocationTargetException;
import java.lang.reflect.Method;
import java.nio.file.Files;
import java.nio.file.Path;
import java.util.Set;
import java.util.TreeSet;
import java.util.regex.Matcher;
import java.util.regex.Pattern;

/** Does the calls that README.md shows and gets the answers that it tells. Run from the project's directory. */
public final class ReadmeTest {
    private static final Path README = Path.of("README.md");
    private static final String NEW = "ProgramSlices desk = new ProgramSlices();";
    private static final Pattern CALL =
            Pattern.compile("desk\\.(\\w+)\\(([^)]*)\\); *// (?:(-?\\d+|true|false)(?=:|$))?.*");
    /** A call anywhere else in the text would be one that nobody does. */
    private static final Pattern SHOWN = Pattern.compile("desk\\.\\w+\\(");

    private static ProgramSlices desk = null;

    private ReadmeTest() {
    }

    public static void main(String[] args) throws IOException, ReflectiveOperationException {
        Set<String> called = new TreeSet<>();
        boolean inBlock = false;
        int blocks = 0;
        for (String line : Files.readAllLines(README)) {
            if (line.startsWith("```")) {
                inBlock = line.equals("```java");
                blocks += inBlock ? 1 : 0;
            } else if (inBlock) {
                doLine(line, called);
            } else {
                Expect.same("a call outside a block: " + line, SHOWN.matcher(line).find(), false);
            }
        }
        Expect.same("blocks", blocks, 3);
        for (Method method : ProgramSlices.class.getMethods()) {
            if (method.getDeclaringClass() == ProgramSlices.class) {
                Expect.same("shown: " + method.getName(), called.contains(method.getName()), true);
            }
        }
        Expect.finish();
    }

    private static void doLine(String line, Set<String> called) throws ReflectiveOperationException {
        if (line.equals(NEW)) {
            desk = new ProgramSlices();
            return;
        }
        if (line.isBlank()) {
            return;
        }
        Matcher call = CALL.matcher(line);
        Expect.same("understood: " + line, call.matches(), true);
        if (call.matches()) {
            called.add(call.group(1));
            Expect.same(line, answer(call.group(1), call.group(2)), due(call.group(3)));
        }
    }

    /** What the call answered, as Expect counts answers; no number that a line tells for clear, which has none. */
    private static long answer(String name, String arguments) throws ReflectiveOperationException {
        String[] texts = arguments.isEmpty() ? new String[0] : arguments.split(", ");
        for (Method method : ProgramSlices.class.getMethods()) {
            if (method.getName().equals(name) && method.getParameterCount() == texts.length) {
                return number(invoke(method, texts));
            }
        }
        throw new NoSuchMethodException(name);
    }

    private static Object invoke(Method method, String[] texts)
            throws IllegalAccessException, InvocationTargetException {
        Object[] values = new Object[texts.length];
        for (int i = 0; i < texts.length; i++) {
            boolean truth = method.getParameterTypes()[i] == boolean.class;
            values[i] = truth ? (Object) Boolean.valueOf(texts[i]) : (Object) Integer.valueOf(texts[i]);
        }
        return method.invoke(desk, values);
    }

    private static long number(Object answer) {
        return answer == null ? Long.MIN_VALUE : due(answer.toString());
    }

    /** True and false are kept apart from 1 and 0. */
    private static long due(String text) {
        if (text == null) {
            return Long.MIN_VALUE;
        }
        if (text.equals("true") || text.equals("false")) {
            return text.equals("true") ? Long.MAX_VALUE : Long.MAX_VALUE - 1;
        }
        return Long.parseLong(text);
    }
}
