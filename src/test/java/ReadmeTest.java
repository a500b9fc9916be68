import java.lang.reflect.InvocationTargetException;
import java.lang.reflect.Method;
import java.nio.charset.StandardCharsets;
import java.nio.file.Files;
import java.nio.file.Path;
import java.util.HashMap;
import java.util.Map;
import java.util.TreeSet;
import java.util.regex.Matcher;
import java.util.regex.Pattern;

/** README.md: the calls of its example answer what stands behind them, and its other tables name what there is. */
public final class ReadmeTest {
    private static final Check CHECK = new Check();
    private static final Pattern CALL = Pattern.compile("x\\.(\\w+)\\(([^)]*)\\);\\s*// (throws \\w+|-?[\\w.]*\\w).*");

    public static void main(String[] args) throws Exception {
        String readme = new String(Files.readAllBytes(Path.of("README.md")), StandardCharsets.UTF_8);
        play(readme);
        allCallsAreNamed(readme);
        allTestsAreNamed(readme);
        CHECK.end();
    }

    private static void play(String readme) throws Exception {
        WaterExchange x = new WaterExchange();
        Map<String, Method> face = new HashMap<>();
        for (Method m : WaterExchange.class.getDeclaredMethods()) {
            face.put(m.getName(), m);
        }
        int calls = 0;
        for (String line : readme.split("\n")) {
            if (line.startsWith("x.")) {
                Matcher m = CALL.matcher(line);
                CHECK.holds("a call with its answer: " + line, m.matches() && face.containsKey(m.group(1)));
                CHECK.same(line, answer(face.get(m.group(1)), x, m.group(2)), m.group(3));
                calls++;
            }
        }
        CHECK.holds("the example has calls", calls >= 10);
    }

    private static String answer(Method method, WaterExchange x, String words) throws Exception {
        String[] parts = words.isEmpty() ? new String[0] : words.split(",\\s*");
        Object[] arguments = new Object[parts.length];
        for (int i = 0; i < parts.length; i++) {
            arguments[i] = Integer.decode(parts[i]);
        }
        try {
            return String.valueOf(method.invoke(x, arguments));
        } catch (InvocationTargetException e) {
            return "throws " + e.getCause().getClass().getSimpleName();
        }
    }

    private static void allCallsAreNamed(String readme) {
        for (Method m : WaterExchange.class.getDeclaredMethods()) {
            if (java.lang.reflect.Modifier.isPublic(m.getModifiers())) {
                CHECK.holds("README.md names " + m.getName(), readme.contains("`" + m.getName() + "`"));
            }
        }
    }

    private static void allTestsAreNamed(String readme) {
        TreeSet<String> tests = new TreeSet<>();
        for (String file : Path.of("src/test/java").toFile().list()) {
            if (file.endsWith("Test.java")) {
                tests.add(file.replace(".java", ""));
            }
        }
        CHECK.holds("there are tests", tests.size() >= 10);
        for (String test : tests) {
            CHECK.holds("README.md names " + test, readme.contains("| `" + test + "` |"));
        }
    }
}
