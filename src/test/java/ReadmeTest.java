import java.io.IOException;
import java.lang.reflect.InvocationTargetException;
import java.lang.reflect.Method;
import java.lang.reflect.Modifier;
import java.nio.file.Files;
import java.nio.file.Path;
import java.util.ArrayList;
import java.util.HashMap;
import java.util.List;
import java.util.Map;
import java.util.Set;
import java.util.TreeMap;
import java.util.TreeSet;
import java.util.regex.Matcher;
import java.util.regex.Pattern;

/**
 * The calls that README.md shows answer what it says, and its table names every call with its
 * exceptions. The calls are read from the file itself, so that the two can't part.
 */
public final class ReadmeTest extends Checks {

    private static final Pattern MAKING =
            Pattern.compile("FormulaShapes shapes = new FormulaShapes\\(\\);");
    private static final Pattern CALL = Pattern.compile(
            "(?:int (\\w+) = )?shapes\\.(\\w+)\\(([^()]*)\\);\\s*"
                    + "// (answers|throws) (-?\\w+)(?:: .+)?");
    private static final Pattern ROW =
            Pattern.compile("\\| `(\\w+)\\(([^()]*)\\)` \\| ([^|]+) \\| ([^|]+) \\|");
    private static final Pattern EXCEPTION = Pattern.compile("\\w+Exception");

    private static final Map<String, Method> FACE = face();

    public static void main(String[] args) throws IOException {
        List<String> readme = Files.readAllLines(Path.of("README.md"));
        test("README.md: its calls answer what it says", () -> new Example().run(readme));
        test("README.md: its table of calls", () -> table(readme));
        end();
    }

    private static Map<String, Method> face() {
        Map<String, Method> face = new TreeMap<>();
        for (Method m : FormulaShapes.class.getDeclaredMethods()) {
            if (Modifier.isPublic(m.getModifiers())) {
                face.put(m.getName(), m);
            }
        }
        return face;
    }

    /** The lines between the fences of Java in README.md: one run of calls on one object. */
    private static List<String> javaLines(List<String> readme) {
        List<String> lines = new ArrayList<>();
        boolean inside = false;
        for (String line : readme) {
            if (line.startsWith("```")) {
                inside = line.equals("```java");
            } else if (inside && !line.isBlank()) {
                lines.add(line.strip());
            }
        }
        return lines;
    }

    private static final class Example {
        private FormulaShapes shapes;
        private final Map<String, Integer> numbers = new HashMap<>();
        private final Set<String> called = new TreeSet<>();
        private final Set<String> outcomes = new TreeSet<>();

        void run(List<String> readme) {
            for (String line : javaLines(readme)) {
                runLine(line);
            }
            if (!called.equals(FACE.keySet())) {
                fail("it shows the calls " + called + ", due are " + FACE.keySet());
            }
            for (Class<?> due : List.of(INDEX, ARGUMENT, STATE, UNSUPPORTED)) {
                if (!outcomes.contains("throws " + due.getSimpleName())) {
                    fail("it shows no call that throws " + due.getSimpleName());
                }
            }
        }

        private void runLine(String line) {
            if (MAKING.matcher(line).matches()) {
                if (shapes != null) {
                    fail("it makes a second object");
                }
                shapes = new FormulaShapes();
                return;
            }
            Matcher call = CALL.matcher(line);
            if (!call.matches() || shapes == null || !FACE.containsKey(call.group(2))) {
                fail("not a call with its answer: " + line);
                return;
            }
            Method method = FACE.get(call.group(2));
            called.add(method.getName());
            String due = call.group(4) + " " + call.group(5);
            String got = outcome(method, arguments(method, call.group(3)));
            outcomes.add(got);
            if (!got.equals(due)) {
                fail(line + " - it " + got);
            }
            String name = call.group(1);
            if (name != null && numbers.put(name, Integer.parseInt(call.group(5))) != null) {
                fail("it names two numbers " + name);
            }
        }

        private Object[] arguments(Method method, String written) {
            String[] words = written.isBlank() ? new String[0] : written.split(", ");
            Class<?>[] types = method.getParameterTypes();
            if (words.length != types.length) {
                throw new IllegalArgumentException(method.getName() + "(" + written + ")");
            }
            Object[] arguments = new Object[words.length];
            for (int i = 0; i < words.length; i++) {
                arguments[i] = types[i] == boolean.class ? truth(words[i]) : number(words[i]);
            }
            return arguments;
        }

        private static Object truth(String word) {
            if (!word.equals("true") && !word.equals("false")) {
                throw new IllegalArgumentException("neither true nor false: " + word);
            }
            return word.equals("true");
        }

        private Object number(String word) {
            if (word.equals("FormulaShapes.NONE")) {
                return NONE;
            }
            Integer named = numbers.get(word);
            return named != null ? named : Integer.valueOf(word);
        }

        private String outcome(Method method, Object[] arguments) {
            try {
                Object answer = method.invoke(shapes, arguments);
                return "answers " + (method.getReturnType() == void.class ? "nothing" : answer);
            } catch (InvocationTargetException e) {
                return "throws " + e.getCause().getClass().getSimpleName();
            } catch (IllegalAccessException e) {
                return "can't be called";
            }
        }
    }

    private static void table(List<String> readme) {
        Set<String> rows = new TreeSet<>();
        for (String line : readme) {
            Matcher row = ROW.matcher(line);
            if (!row.matches()) {
                continue;
            }
            Method method = FACE.get(row.group(1));
            if (method == null || !rows.add(row.group(1))) {
                fail("no such call, or told twice: " + line);
                continue;
            }
            String written = row.group(2);
            same("the arguments of " + row.group(1),
                    written.isEmpty() ? 0 : written.split(", ").length,
                    method.getParameterCount());
            if (!exceptionsIn(row.group(4)).equals(exceptionsOf(method))) {
                fail(row.group(1) + " names " + exceptionsOf(method) + ", not "
                        + exceptionsIn(row.group(4)));
            }
        }
        if (!rows.equals(FACE.keySet())) {
            fail("it tells of " + rows + ", due are " + FACE.keySet());
        }
    }

    private static List<String> exceptionsIn(String cell) {
        List<String> names = new ArrayList<>();
        Matcher name = EXCEPTION.matcher(cell);
        while (name.find()) {
            names.add(name.group());
        }
        return names;
    }

    private static List<String> exceptionsOf(Method method) {
        List<String> names = new ArrayList<>();
        for (Class<?> type : method.getExceptionTypes()) {
            names.add(type.getSimpleName());
        }
        return names;
    }
}
