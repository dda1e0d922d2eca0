import java.io.IOException;
import java.lang.reflect.Method;
import java.lang.reflect.Modifier;
import java.nio.file.Files;
import java.nio.file.Path;
import java.util.List;
import java.util.regex.Matcher;
import java.util.regex.Pattern;
import java.util.stream.Stream;

/** README.md: its example answers what it says there, and it leaves out no call and no test. */
final class ReadmeTest {
    private static final Pattern ASKED = Pattern.compile("x\\.(\\w+)\\(([^)]*)\\);\\s+// (-?\\d+)(?!\\d).*");

    private static final Check CHECK = new Check();

    public static void main(String[] args) throws ReflectiveOperationException, IOException {
        String text = Files.readString(Path.of("README.md"));
        example(text);
        namesEachCall(text);
        namesEachTest(text);
        CHECK.end();
    }

    private static void example(String text) throws ReflectiveOperationException {
        PlaceRectangles x = new PlaceRectangles();
        int asked = 0;
        for (String line : javaBlock(text)) {
            if (line.startsWith("x.")) {
                Matcher matcher = ASKED.matcher(line);
                boolean told = matcher.matches();
                CHECK.isTrue("the example tells the answer of: " + line, told);
                if (told) {
                    long answer = ask(x, matcher.group(1), matcher.group(2));
                    CHECK.due("the example's line: " + line, answer, Long.parseLong(matcher.group(3)));
                    asked++;
                }
            }
        }
        CHECK.isTrue("the example has calls", asked > 0);
    }

    private static List<String> javaBlock(String text) {
        String[] parts = text.split("```java\n");
        CHECK.due("examples in Java", parts.length - 1, 1);
        return parts.length < 2 ? List.of() : parts[1].split("```")[0].lines().toList();
    }

    private static long ask(PlaceRectangles x, String name, String arguments) throws ReflectiveOperationException {
        String[] numbers = arguments.isEmpty() ? new String[0] : arguments.split(", ");
        Class<?>[] types = new Class<?>[numbers.length];
        Object[] values = new Object[numbers.length];
        for (int k = 0; k < numbers.length; k++) {
            types[k] = int.class;
            values[k] = Integer.valueOf(numbers[k]);
        }
        return ((Number) PlaceRectangles.class.getMethod(name, types).invoke(x, values)).longValue();
    }

    private static void namesEachCall(String text) {
        for (Method method : PlaceRectangles.class.getDeclaredMethods()) {
            if (Modifier.isPublic(method.getModifiers())) {
                int parameters = method.getParameterCount();
                String row = "(?m)^\\| `" + method.getName() + "\\("
                        + (parameters == 0 ? "" : "\\w+(, \\w+){" + (parameters - 1) + "}") + "\\)` \\| .+ \\|$";
                CHECK.isTrue("a row for " + method.getName(), Pattern.compile(row).matcher(text).find());
            }
        }
    }

    private static void namesEachTest(String text) throws IOException {
        try (Stream<Path> files = Files.list(Path.of("src/test/java"))) {
            for (Path file : files.toList()) {
                String name = file.getFileName().toString().replace(".java", "");
                if (name.endsWith("Test")) {
                    CHECK.isTrue("a row for " + name, text.contains("\n| `" + name + "` | "));
                }
            }
        }
    }
}
