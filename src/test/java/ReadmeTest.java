import java.io.IOException;
import java.lang.reflect.Method;
import java.lang.reflect.Modifier;
import java.nio.file.Files;
import java.nio.file.Path;
import java.util.regex.Matcher;
import java.util.regex.Pattern;
import java.util.stream.Stream;

/** README.md shows the use of the class by calls with their answers: they must be the true ones. */
public final class ReadmeTest {
    private static final Path README = Path.of("README.md");
    private static final Path TESTS = Path.of("src/test/java");
    private static final Pattern CALL = Pattern.compile("bench\\.(\\w+)\\(([^)]*)\\);\\s*// (-?\\d+): .+");
    private static final Check check = new Check("ReadmeTest");

    public static void main(String[] args) throws IOException, ReflectiveOperationException {
        String text = Files.readString(README);
        callsAnswerAsShown(text);
        everyCallIsTold(text);
        everyTestIsTold(text);
        check.end();
    }

    private static void callsAnswerAsShown(String text) throws ReflectiveOperationException {
        ShrinkBench bench = new ShrinkBench();
        for (String line : text.split("\n")) {
            if (line.startsWith("bench.")) {
                Matcher call = CALL.matcher(line);
                if (call.matches()) {
                    check.due(line, answer(bench, call.group(1), call.group(2)), Integer.parseInt(call.group(3)));
                } else {
                    check.holds("an answer stands behind " + line, false);
                }
            }
        }
    }

    private static int answer(ShrinkBench bench, String name, String numbers) throws ReflectiveOperationException {
        String[] parts = numbers.isEmpty() ? new String[0] : numbers.split(", ");
        Class<?>[] types = new Class<?>[parts.length];
        Object[] values = new Object[parts.length];
        for (int i = 0; i < parts.length; i++) {
            types[i] = int.class;
            values[i] = Integer.valueOf(parts[i]);
        }
        return (Integer) ShrinkBench.class.getMethod(name, types).invoke(bench, values);
    }

    private static void everyCallIsTold(String text) {
        for (Method method : ShrinkBench.class.getDeclaredMethods()) {
            if (Modifier.isPublic(method.getModifiers())) {
                check.holds(method.getName() + " is told of", text.contains("`" + method.getName() + "`"));
            }
        }
    }

    private static void everyTestIsTold(String text) throws IOException {
        try (Stream<Path> files = Files.list(TESTS)) {
            files.map(file -> file.getFileName().toString().replace(".java", ""))
                    .filter(name -> name.endsWith("Test"))
                    .forEach(name -> check.holds(name + " is told of", text.contains("| `" + name + "` |")));
        }
    }
}
