import java.io.IOException;
import java.lang.reflect.InvocationTargetException;
import java.lang.reflect.Method;
import java.nio.file.Files;
import java.nio.file.Path;
import java.util.List;
import java.util.Set;
import java.util.TreeSet;
import java.util.regex.Matcher;
import java.util.regex.Pattern;
import java.util.stream.Collectors;
import java.util.stream.Stream;

/** What README.md says: the calls with their answers, and the table of the tests. */
public final class ReadmeTest {
    private static final Due DUE = new Due();
    private static final Pattern CALL = Pattern.compile("wand\\.(\\w+)\\((.*)\\); +// (throws \\w+|-?\\d+)(?::.*)?");
    private static final Pattern ROW = Pattern.compile("\\| `(\\w+)` \\| .*");

    private ReadmeTest() {
    }

    public static void main(String[] args) throws IOException {
        List<String> lines = Files.readAllLines(Path.of("README.md"));
        testCalls(lines);
        testTable(lines);
        DUE.end();
    }

    private static void testCalls(List<String> lines) {
        BarcodeWand wand = new BarcodeWand();
        Set<String> shown = new TreeSet<>();
        for (String line : lines) {
            Matcher call = CALL.matcher(line);
            if (call.matches()) {
                Method method = methodNamed(call.group(1));
                shown.add(method.getName());
                String got = answerOf(wand, method, call.group(2));
                DUE.isTrue(line + " answered " + got, got.equals(call.group(3)));
            } else {
                DUE.isTrue("no answer is told: " + line, !line.startsWith("wand."));
            }
        }
        Set<String> face = Stream.of(BarcodeWand.class.getMethods())
            .filter(method -> method.getDeclaringClass() == BarcodeWand.class)
            .map(Method::getName).collect(Collectors.toCollection(TreeSet::new));
        DUE.isTrue("shown are " + shown, shown.equals(face));
    }

    private static Method methodNamed(String name) {
        return Stream.of(BarcodeWand.class.getMethods())
            .filter(method -> method.getName().equals(name)).findFirst().orElseThrow();
    }

    private static String answerOf(BarcodeWand wand, Method method, String arguments) {
        Object[] values = arguments.isEmpty() ? new Object[0]
            : Stream.of(arguments.split(", ")).map(ReadmeTest::valueOf).toArray();
        try {
            return method.invoke(wand, values).toString();
        } catch (InvocationTargetException exception) {
            return "throws " + exception.getCause().getClass().getSimpleName();
        } catch (IllegalAccessException exception) {
            return exception.toString();
        }
    }

    private static Object valueOf(String argument) {
        if (argument.startsWith("'")) {
            return (int) argument.charAt(1);
        }
        if (argument.equals("true") || argument.equals("false")) {
            return Boolean.valueOf(argument);
        }
        return Integer.valueOf(argument);
    }

    private static void testTable(List<String> lines) throws IOException {
        Set<String> told = new TreeSet<>();
        for (String line : lines) {
            Matcher row = ROW.matcher(line);
            if (row.matches()) {
                told.add(row.group(1) + ".java");
            }
        }
        Set<String> found;
        try (Stream<Path> files = Files.list(Path.of("src/test/java"))) {
            found = files.map(file -> file.getFileName().toString())
                .filter(name -> name.endsWith("Test.java")).collect(Collectors.toCollection(TreeSet::new));
        }
        DUE.isTrue("the table tells " + told + ", the tests are " + found, told.equals(found));
    }
}
