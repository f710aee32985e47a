import java.io.IOException;
import java.lang.reflect.Method;
import java.lang.reflect.Modifier;
import java.nio.file.Files;
import java.nio.file.Path;
import java.util.regex.Matcher;
import java.util.regex.Pattern;

/** README.md: a row for each call with as many arguments as it has, and an example that answers so. */
final class ReadmeTest {
    private static final Pattern CALL = Pattern.compile("court\\.(\\w+)\\(([^)]*)\\);(?:.*: (-?\\d+))?.*");

    public static void main(String[] args) throws ReflectiveOperationException, IOException {
        String text = Files.readString(Path.of("README.md"));
        everyCallHasARow(text);
        theExampleAnswersSo(text);
        everyTestHasARow(text);
        Due.finish();
    }

    private static void everyCallHasARow(String text) {
        for (Method method : SalvageCourt.class.getDeclaredMethods()) {
            if (!Modifier.isPublic(method.getModifiers())) {
                continue;
            }
            int count = method.getParameterCount();
            String arguments = count == 0 ? "" : "\\w+" + ", \\w+".repeat(count - 1);
            String row = "(?m)^\\| `" + method.getName() + "\\(" + arguments + "\\)`(?: \\|[^|\n]+){3} \\|$";
            Due.due("a row of " + method.getName(), Pattern.compile(row).matcher(text).find(), true);
        }
    }

    private static void theExampleAnswersSo(String text) throws ReflectiveOperationException {
        SalvageCourt court = new SalvageCourt();
        int answers = 0;
        int start = text.indexOf("```java\n") + 8;
        for (String line : text.substring(start, text.indexOf("```", start)).split("\n")) {
            Matcher matcher = CALL.matcher(line);
            if (!matcher.matches()) {
                Due.due("a line of another kind: " + line, line.startsWith("SalvageCourt court = "), true);
                continue;
            }
            Object got = call(court, matcher.group(1), matcher.group(2).split(", "));
            Due.due(line + " is refused", got.equals(false) || got.equals(-1) || got.equals(-1L), false);
            // "log 0: thing 1" tells no answer; only a number that ends its line does.
            if (matcher.group(3) != null && line.endsWith(": " + matcher.group(3))) {
                answers++;
                Due.due(line, ((Number) got).longValue(), Long.parseLong(matcher.group(3)));
            }
        }
        Due.due("answers told in the example", answers, 2);
    }

    private static Object call(SalvageCourt court, String name, String[] told)
            throws ReflectiveOperationException {
        for (Method method : SalvageCourt.class.getDeclaredMethods()) {
            if (method.getName().equals(name) && method.getParameterCount() == told.length) {
                Object[] arguments = new Object[told.length];
                for (int i = 0; i < told.length; i++) {
                    boolean isLong = method.getParameterTypes()[i] == long.class;
                    arguments[i] = isLong ? (Object) Long.decode(told[i]) : (Object) Integer.decode(told[i]);
                }
                return method.invoke(court, arguments);
            }
        }
        throw new NoSuchMethodException(name);
    }

    private static void everyTestHasARow(String text) throws IOException {
        try (var files = Files.list(Path.of("src/test/java"))) {
            for (Path file : files.toList()) {
                String name = file.getFileName().toString().replace(".java", "");
                if (name.endsWith("Test")) {
                    Due.due("a row of " + name, text.contains("\n| `" + name + "` | "), true);
                }
            }
        }
    }
}
