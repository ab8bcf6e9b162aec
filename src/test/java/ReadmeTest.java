import java.io.IOException;
import java.lang.reflect.Method;
import java.nio.file.Files;
import java.nio.file.Path;
import java.util.HashMap;
import java.util.Map;
import java.util.TreeSet;
import java.util.regex.Matcher;
import java.util.regex.Pattern;
import java.util.stream.Stream;

/** What README.md says of the calls is so, and it names every call and every test; run from the project's folder. */
public final class ReadmeTest {
    private static final Pattern MADE = Pattern.compile("FreightPaths desk = new FreightPaths\\((\\d+)\\); +// .*");
    private static final Pattern CALL =
        Pattern.compile("(?:int (\\w) = )?desk\\.(\\w+)\\(([^)]*)\\); +// (-?\\d+|true|false): .*");

    public static void main(String[] args) throws IOException, ReflectiveOperationException {
        String page = Files.readString(Path.of("README.md"));
        Matcher example = Pattern.compile("(?s)```java\n(.*?)```").matcher(page);
        Due.due("README.md has an example", example.find(), true);
        TreeSet<String> used = follow(example.group(1).split("\n"));
        for (Method m : FreightPaths.class.getMethods()) {
            if (m.getDeclaringClass() == FreightPaths.class) {
                Due.due("the example uses " + m.getName(), used.contains(m.getName()), true);
                Due.due("the table tells of " + m.getName(), page.matches("(?s).*\n\\|[^|]*`" + m.getName() + "\\(.*"), true);
            }
        }
        try (Stream<Path> tests = Files.list(Path.of("src/test/java"))) {
            for (Path test : tests.filter(p -> p.toString().endsWith("Test.java")).toList()) {
                String name = test.getFileName().toString().replace(".java", "");
                Due.due("README.md tells of " + name, page.contains("`" + name + "`"), true);
            }
        }
        Due.due("README.md tells of .ci/run", page.contains("`.ci/run`"), true);
        Due.finish("ReadmeTest");
    }

    /** Makes the calls of the example line by line; answers the names of those that it made. */
    private static TreeSet<String> follow(String[] lines) throws ReflectiveOperationException {
        Matcher made = MADE.matcher(lines[0]);
        Due.due("the example begins with an object: " + lines[0], made.matches(), true);
        FreightPaths desk = new FreightPaths(Integer.parseInt(made.group(1)));
        Map<String, Integer> numbers = new HashMap<>();
        TreeSet<String> used = new TreeSet<>();
        for (int i = 1; i < lines.length; i++) {
            Matcher call = CALL.matcher(lines[i]);
            if (!call.matches()) {
                Due.due("a call with its answer: " + lines[i], false, true);
                continue;
            }
            Object got = answer(desk, call.group(2), call.group(3), numbers);
            Due.due(lines[i] + " but it answered " + got, got.toString().equals(call.group(4)), true);
            if (call.group(1) != null) {
                numbers.put(call.group(1), (Integer) got);
            }
            used.add(call.group(2));
        }
        return used;
    }

    private static Object answer(FreightPaths desk, String name, String given, Map<String, Integer> numbers)
            throws ReflectiveOperationException {
        String[] texts = given.isEmpty() ? new String[0] : given.split(", ");
        Object[] values = new Object[texts.length];
        Class<?>[] types = new Class<?>[texts.length];
        for (int i = 0; i < texts.length; i++) {
            boolean isTruth = texts[i].equals("true") || texts[i].equals("false");
            types[i] = isTruth ? boolean.class : int.class;
            Integer kept = numbers.get(texts[i]);
            values[i] = isTruth ? (Object) texts[i].equals("true") : kept != null ? kept : Integer.valueOf(texts[i]);
        }
        return FreightPaths.class.getMethod(name, types).invoke(desk, values);
    }
}
