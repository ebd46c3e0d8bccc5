import java.lang.reflect.Method;
import java.lang.reflect.Modifier;
import java.nio.file.Files;
import java.nio.file.Path;
import java.util.ArrayList;
import java.util.HashMap;
import java.util.List;
import java.util.Map;
import java.util.Set;
import java.util.TreeSet;
import java.util.regex.Matcher;
import java.util.regex.Pattern;

/**
 * README.md: the run of calls that it shows is made, line by line, and each answer compared with the one behind
 * the line; and its tables name each call of the face with the exceptions that the call throws, in their order.
 */
public final class ReadmeTests {
    private static final Path README = Path.of("README.md");
    private static final Pattern MADE = Pattern.compile("EdgeTasks (\\w+) = new EdgeTasks\\(\\);");
    private static final Pattern CALLED =
            Pattern.compile("(?:int (\\w+) = )?(\\w+)\\.(\\w+)\\((.*?)\\);\\s+// (throws \\w+|[^\\s:]+)(?:[ :].*)?");
    private static final Pattern ROW = Pattern.compile("\\| `(\\w+)\\(([\\w, ]*)\\)` \\|.*\\| (.+) \\|");
    private static final Pattern EXCEPTION = Pattern.compile("`(\\w+Exception)`");
    private static final int LEAST_CALLS = 30;

    private final Map<String, EdgeTasks> objects = new HashMap<>();
    private final Map<String, String> numbers = new HashMap<>();
    private int calls = 0;

    public static void main(String[] args) throws Exception {
        List<String> lines = Files.readAllLines(README);
        ReadmeTests test = new ReadmeTests();
        for (String line : run(lines)) {
            test.make(line);
        }
        Check.isTrue("README.md shows " + test.calls + " calls only", test.calls >= LEAST_CALLS);
        tables(lines);
        testsToldOf(lines);
        Check.end();
    }

    /** The lines of the Java blocks that are not empty. */
    private static List<String> run(List<String> lines) {
        List<String> run = new ArrayList<>();
        boolean inside = false;
        for (String line : lines) {
            if (line.startsWith("```")) {
                inside = line.equals("```java");
            } else if (inside && !line.isBlank()) {
                run.add(line);
            }
        }
        return run;
    }

    private void make(String line) {
        Matcher made = MADE.matcher(line);
        if (made.matches()) {
            objects.put(made.group(1), new EdgeTasks());
            return;
        }
        Matcher called = CALLED.matcher(line);
        if (!called.matches() || !objects.containsKey(called.group(2))) {
            Check.report("README.md shows what the test cannot make: " + line);
            return;
        }
        String call = called.group(3) + "(" + withNumbers(called.group(4)) + ")";
        String answer = Calls.answer(objects.get(called.group(2)), call);
        Check.same("README.md: " + line, answer, called.group(5).replace(' ', '.'));
        if (called.group(1) != null) {
            numbers.put(called.group(1), answer);
        }
        calls++;
    }

    private String withNumbers(String arguments) {
        StringBuilder all = new StringBuilder();
        for (String argument : arguments.isEmpty() ? new String[0] : arguments.split(",\\s*")) {
            all.append(all.length() == 0 ? "" : ", ").append(numbers.getOrDefault(argument, argument));
        }
        return all.toString();
    }

    private static void tables(List<String> lines) {
        Map<String, Method> face = new HashMap<>();
        for (Method m : EdgeTasks.class.getDeclaredMethods()) {
            if (Modifier.isPublic(m.getModifiers())) {
                face.put(m.getName(), m);
            }
        }
        Set<String> missing = new TreeSet<>(face.keySet());
        for (String line : lines) {
            Matcher row = ROW.matcher(line);
            if (!row.matches()) {
                continue;
            }
            Method m = face.get(row.group(1));
            Check.isTrue("README.md names a call that there is not, or twice: " + line, missing.remove(row.group(1)));
            if (m == null) {
                continue;
            }
            int count = row.group(2).isEmpty() ? 0 : row.group(2).split(",").length;
            Check.same("README.md: arguments of " + m.getName(), count, m.getParameterCount());
            Check.same("README.md: exceptions of " + m.getName(), namedIn(row.group(3)), thrownBy(m));
        }
        Check.same("README.md: calls that no table names", missing.toString(), "[]");
    }

    private static String namedIn(String text) {
        List<String> names = new ArrayList<>();
        Matcher m = EXCEPTION.matcher(text);
        while (m.find()) {
            names.add(m.group(1));
        }
        return names.toString();
    }

    private static String thrownBy(Method m) {
        List<String> names = new ArrayList<>();
        for (Class<?> e : m.getExceptionTypes()) {
            names.add(e.getSimpleName());
        }
        return names.toString();
    }

    /** Each test class of the project is told of, and none that there is not. */
    private static void testsToldOf(List<String> lines) throws Exception {
        Set<String> told = new TreeSet<>();
        Matcher m = Pattern.compile("`(\\w+Tests)`").matcher(String.join("\n", lines));
        while (m.find()) {
            told.add(m.group(1));
        }
        Set<String> there = new TreeSet<>();
        try (var files = Files.list(Path.of("src/test/java"))) {
            files.map(f -> f.getFileName().toString()).filter(f -> f.endsWith("Tests.java"))
                    .forEach(f -> there.add(f.substring(0, f.length() - 5)));
        }
        Check.same("README.md: the tests", told.toString(), there.toString());
    }
}
