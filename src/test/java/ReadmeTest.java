import java.io.IOException;
import java.lang.reflect.Method;
import java.lang.reflect.Modifier;
import java.nio.file.Files;
import java.nio.file.Path;
import java.util.regex.Matcher;
import java.util.regex.Pattern;

/** README.md: the answers of its example, every call of the face, every test program. */
public final class ReadmeTest extends Asking {
    private static final Pattern TEXT = Pattern.compile("for \\(char c : \"([^\"]*)\"\\.toCharArray\\(\\)\\) \\{");
    private static final Pattern CALL = Pattern.compile("town\\.(\\w+)\\(([^)]*)\\); // (-?\\d+)(:.*)?");

    public static void main(String[] args) throws ReflectiveOperationException, IOException {
        String readme = Files.readString(Path.of("README.md"));
        example(readme);
        faceIsNamed(readme);
        testsAreNamed(readme);
        finish();
    }

    private static void example(String readme) throws ReflectiveOperationException {
        DoorTown town = new DoorTown();
        int from = readme.indexOf("```java\n");
        int to = readme.indexOf("```\n", from + 1);
        due("an example in Java", from >= 0 && to > from ? 1 : 0, 1);
        int calls = 0;
        for (String line : readme.substring(from + "```java\n".length(), to).split("\n")) {
            Matcher text = TEXT.matcher(line);
            Matcher call = CALL.matcher(line);
            if (text.matches()) {
                for (char c : text.group(1).toCharArray()) {
                    town.feed(c);
                }
            } else if (call.matches()) {
                calls++;
                due(line, answer(town, call.group(1), call.group(2)), Long.parseLong(call.group(3)));
            } else {
                boolean plain = line.equals("DoorTown town = new DoorTown();") || line.equals("}")
                        || line.equals("    town.feed(c); // letter by letter onto THE TAPE");
                due("a line that the test can read: " + line, plain ? 1 : 0, 1);
            }
        }
        due("calls in the example", calls > 0 ? 1 : 0, 1);
    }

    private static long answer(DoorTown town, String name, String numbers) throws ReflectiveOperationException {
        String[] told = numbers.isEmpty() ? new String[0] : numbers.split(", ");
        Class<?>[] types = new Class<?>[told.length];
        Object[] values = new Object[told.length];
        for (int i = 0; i < told.length; i++) {
            types[i] = int.class;
            values[i] = Integer.valueOf(told[i]);
        }
        return ((Number) DoorTown.class.getMethod(name, types).invoke(town, values)).longValue();
    }

    private static void faceIsNamed(String readme) {
        for (Method method : DoorTown.class.getDeclaredMethods()) {
            if (Modifier.isPublic(method.getModifiers())) {
                due("`" + method.getName() + "` named", readme.contains("`" + method.getName() + "`") ? 1 : 0, 1);
            }
        }
    }

    private static void testsAreNamed(String readme) throws IOException {
        due(".ci/run named", readme.contains(".ci/run") ? 1 : 0, 1);
        try (var files = Files.list(Path.of("src/test/java"))) {
            for (Path file : files.toList()) {
                String name = file.getFileName().toString().replace(".java", "");
                if (name.endsWith("Test")) {
                    due("`" + name + "` named", readme.contains("`" + name) ? 1 : 0, 1);
                }
            }
        }
    }
}
