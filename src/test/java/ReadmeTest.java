import java.io.IOException;
import java.lang.reflect.Method;
import java.lang.reflect.Modifier;
import java.nio.charset.StandardCharsets;
import java.nio.file.Files;
import java.nio.file.Path;
import java.util.Arrays;
import java.util.List;
import java.util.regex.Matcher;
import java.util.regex.Pattern;
import java.util.stream.Stream;

/** README.md says how the class is used: its calls answer as it says, and it tells of each method and each test. */
final class ReadmeTest {
    private static final Pattern CALL = Pattern.compile("lathe\\.(\\w+)\\(([^)]*)\\);\\s*// (-?\\d+).*");
    private static final Pattern ROW = Pattern.compile("\\| `(\\w+)\\(([^)]*)\\)` \\|.*\\| (-?\\d*) ?\\|");
    private static final Check CHECK = new Check();

    private static int[] numbers(String text) {
        return Stream.of(text.split(",")).map(String::trim).filter(n -> !n.isEmpty())
            .mapToInt(Integer::parseInt).toArray();
    }

    private static Method method(String name, int parameters) {
        return Stream.of(RoseLathe.class.getDeclaredMethods()).filter(m -> Modifier.isPublic(m.getModifiers())
            && m.getName().equals(name) && m.getParameterCount() == parameters).findFirst().orElse(null);
    }

    private static int answer(RoseLathe x, Method m, int[] numbers) {
        try {
            return (int) m.invoke(x, Arrays.stream(numbers).boxed().toArray());
        } catch (ReflectiveOperationException e) {
            throw new IllegalStateException(m.getName(), e);
        }
    }

    private static void example(List<String> lines) {
        CHECK.about("the calls of README.md");
        RoseLathe x = new RoseLathe();
        int calls = 0;
        for (String line : lines) {
            if (!line.startsWith("lathe.")) {
                continue;
            }
            Matcher m = CALL.matcher(line);
            CHECK.holds("a call and its answer: " + line, m.matches());
            if (m.matches()) {
                int[] numbers = numbers(m.group(2));
                Method called = method(m.group(1), numbers.length);
                CHECK.holds("there is such a method: " + line, called != null);
                if (called != null) {
                    CHECK.due(line, answer(x, called, numbers), Integer.parseInt(m.group(3)));
                    calls++;
                }
            }
        }
        CHECK.holds("calls were found", calls > 10);
    }

    private static void table(List<String> lines) {
        CHECK.about("the table of README.md");
        int rows = 0;
        for (String line : lines) {
            Matcher m = ROW.matcher(line);
            if (!m.matches()) {
                continue;
            }
            rows++;
            int parameters = m.group(2).isEmpty() ? 0 : m.group(2).split(",").length;
            Method told = method(m.group(1), parameters);
            CHECK.holds("there is such a method: " + line, told != null);
            if (told != null && !m.group(3).isEmpty()) {
                int[] wrong = new int[parameters];
                Arrays.fill(wrong, Integer.MIN_VALUE);
                CHECK.due("BAD of " + m.group(1), answer(new RoseLathe(), told, wrong), Integer.parseInt(m.group(3)));
            }
        }
        long methods = Stream.of(RoseLathe.class.getDeclaredMethods())
            .filter(m -> Modifier.isPublic(m.getModifiers())).count();
        CHECK.due("methods told", rows, methods);
    }

    private static void tests(String text) throws IOException {
        CHECK.about("the tests of README.md");
        CHECK.holds("how to run them", text.contains("bash .ci/run"));
        try (Stream<Path> files = Files.list(Path.of("src/test/java"))) {
            files.map(file -> file.getFileName().toString()).filter(name -> name.endsWith("Test.java"))
                .map(name -> name.replace(".java", ""))
                .forEach(name -> CHECK.holds(name + " is told", text.contains("| " + name + " |")));
        }
    }

    public static void main(String[] args) throws IOException {
        String text = Files.readString(Path.of("README.md"), StandardCharsets.UTF_8);
        List<String> lines = text.lines().toList();
        example(lines);
        table(lines);
        tests(text);
        CHECK.end("ReadmeTest");
    }
}
