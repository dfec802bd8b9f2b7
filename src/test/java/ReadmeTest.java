import java.io.IOException;
import java.lang.reflect.Method;
import java.lang.reflect.Modifier;
import java.nio.file.Files;
import java.nio.file.Path;
import java.util.ArrayList;
import java.util.List;
import java.util.Set;
import java.util.TreeSet;
import java.util.regex.Matcher;
import java.util.regex.Pattern;
import java.util.stream.Collectors;
import java.util.stream.Stream;

/** README.md, read from the folder where .ci/run stands: its examples' answers are the class's, its list is whole. */
public final class ReadmeTest {
    private static final Path README = Path.of("README.md");
    private static final Path TESTS = Path.of("src", "test", "java");
    private static final Pattern MAKE = Pattern.compile("TimeTable table = new TimeTable\\((-?\\d+)\\);\\s+// .*");
    private static final Pattern CALL = Pattern.compile("table\\.(\\w+)\\(([^)]*)\\);\\s+// (.*)");
    private static final Pattern ANSWER = Pattern.compile("(-?\\d+|NONE|true|false)(: .+)?");
    private static final Pattern LISTED = Pattern.compile("\\| `(\\w+Test)` \\| .+ \\|");

    private static final Checks CHECKS = new Checks();

    public static void main(String[] args) throws IOException, ReflectiveOperationException {
        List<String> lines = Files.readAllLines(README);
        Set<String> shown = runExamples(lines);
        CHECKS.in("README.md");
        CHECKS.due("methods in examples", shown.toString(), publicMethods().toString());
        CHECKS.due("tests listed", listedTests(lines).toString(), ownTests().toString());
        CHECKS.end();
    }

    /** Answers the names of the methods that the examples call. */
    private static Set<String> runExamples(List<String> lines) throws ReflectiveOperationException {
        Set<String> shown = new TreeSet<>();
        TimeTable table = null;
        boolean inside = false;
        for (int n = 0; n < lines.size(); n++) {
            String line = lines.get(n);
            CHECKS.in("README.md, line " + (n + 1));
            if (line.startsWith("```")) {
                inside = line.equals("```java");
                table = null;
            } else if (inside && table == null) {
                table = make(line);
            } else if (inside) {
                shown.add(call(table, line));
            }
        }
        return shown;
    }

    private static TimeTable make(String line) {
        Matcher made = MAKE.matcher(line);
        if (!made.matches()) {
            CHECKS.fail("an example does not begin with a new object: " + line);
            return new TimeTable(1);
        }
        return new TimeTable(Integer.parseInt(made.group(1)));
    }

    private static String call(TimeTable table, String line) throws ReflectiveOperationException {
        Matcher call = CALL.matcher(line);
        if (!call.matches()) {
            CHECKS.fail("neither a call nor its answer: " + line);
            return "";
        }
        Method method = methodNamed(call.group(1));
        Object[] arguments = arguments(call.group(2));
        if (method == null || method.getParameterCount() != arguments.length) {
            CHECKS.fail("no such method: " + line);
            return "";
        }
        Object answer = method.invoke(table, arguments);
        Matcher told = ANSWER.matcher(call.group(3));
        String want = !told.matches() ? "null" : told.group(1).equals("NONE") ? "" + TimeTable.NONE : told.group(1);
        CHECKS.due(line, String.valueOf(answer), want);
        return method.getName();
    }

    private static Method methodNamed(String name) {
        for (Method method : TimeTable.class.getDeclaredMethods()) {
            if (Modifier.isPublic(method.getModifiers()) && method.getName().equals(name)) {
                return method;
            }
        }
        return null;
    }

    private static Object[] arguments(String text) {
        List<Object> arguments = new ArrayList<>();
        for (String word : text.isEmpty() ? new String[0] : text.split(", ")) {
            if (word.equals("true") || word.equals("false")) {
                arguments.add(Boolean.valueOf(word));
            } else {
                arguments.add(Integer.valueOf(word));
            }
        }
        return arguments.toArray();
    }

    private static Set<String> publicMethods() {
        Set<String> names = new TreeSet<>();
        for (Method method : TimeTable.class.getDeclaredMethods()) {
            if (Modifier.isPublic(method.getModifiers())) {
                names.add(method.getName());
            }
        }
        return names;
    }

    private static Set<String> listedTests(List<String> lines) {
        Set<String> names = new TreeSet<>();
        for (String line : lines) {
            Matcher listed = LISTED.matcher(line);
            if (listed.matches()) {
                names.add(listed.group(1));
            }
        }
        return names;
    }

    private static Set<String> ownTests() throws IOException {
        try (Stream<Path> files = Files.list(TESTS)) {
            return files.map(file -> file.getFileName().toString())
                .filter(name -> name.endsWith("Test.java"))
                .map(name -> name.substring(0, name.length() - ".java".length()))
                .collect(Collectors.toCollection(TreeSet::new));
        }
    }
}
