import java.io.IOException;
import java.lang.reflect.Method;
import java.nio.file.Files;
import java.nio.file.Path;
import java.util.HashSet;
import java.util.Set;
import java.util.regex.Matcher;
import java.util.regex.Pattern;

/** What README.md shows: its example answers as it says, and it names every call and every test. */
public final class ReadmeTest {
    private static final Pattern TEXT = Pattern.compile("\"(n[^\"]*)\"");
    private static final Pattern CALL = Pattern.compile("(?m)^x\\.(\\w+)\\(([^)]*)\\);\\s*// (-?\\d+)");

    public static void main(String[] args) throws Exception {
        String readme = Files.readString(Path.of("README.md"));
        example(readme);
        callsNamed(readme);
        testsNamed(readme);
        Check.end("ReadmeTest");
    }

    private static void example(String readme) throws ReflectiveOperationException {
        BackMarch x = new BackMarch();
        Matcher text = TEXT.matcher(readme);
        if (!text.find()) {
            Check.fault("README.md shows no text of a land");
            return;
        }
        Check.type(x, text.group(1));
        Matcher call = CALL.matcher(readme);
        int calls = 0;
        while (call.find()) {
            calls++;
            Check.due("README.md: " + call.group(), answer(x, call.group(1), call.group(2)),
                    Long.parseLong(call.group(3)));
        }
        if (calls == 0) {
            Check.fault("README.md shows no calls");
        }
    }

    private static long answer(BackMarch x, String name, String told) throws ReflectiveOperationException {
        String[] numbers = told.isEmpty() ? new String[0] : told.split(", *");
        Class<?>[] types = new Class<?>[numbers.length];
        Object[] values = new Object[numbers.length];
        for (int i = 0; i < numbers.length; i++) {
            types[i] = int.class;
            values[i] = Integer.valueOf(numbers[i]);
        }
        return ((Number) BackMarch.class.getMethod(name, types).invoke(x, values)).longValue();
    }

    private static void callsNamed(String readme) {
        Set<String> names = new HashSet<>();
        for (Method method : BackMarch.class.getMethods()) {
            if (method.getDeclaringClass() == BackMarch.class) {
                names.add(method.getName());
            }
        }
        for (String name : names) {
            if (!Pattern.compile("`" + name + "\\b").matcher(readme).find()) {
                Check.fault("README.md does not name the call " + name);
            }
        }
    }

    private static void testsNamed(String readme) throws IOException {
        try (var files = Files.list(Path.of("src/test/java"))) {
            for (Path file : files.toList()) {
                String name = file.getFileName().toString().replace(".java", "");
                if (name.endsWith("Test") && !readme.contains("`" + name + "`")) {
                    Check.fault("README.md does not name the test " + name);
                }
            }
        }
    }
}
