import java.io.IOException;
import java.lang.reflect.Method;
import java.lang.reflect.Modifier;
import java.nio.file.Files;
import java.nio.file.Path;
import java.util.Set;
import java.util.TreeSet;
import java.util.regex.Matcher;
import java.util.regex.Pattern;

/** README.md shows every call in its examples, tells each in its table, and the answers it writes are given. */
public final class ReadmeTest {
    private static final Pattern CALL = Pattern.compile("x\\.(\\w+)\\((.*)\\);\\s*(?://\\s*(-?\\d+)(?::.*)?)?");
    private static final Expect expect = new Expect();

    private final Set<String> shown = new TreeSet<>();
    private LevelTypes x = null;

    public static void main(String[] args) throws IOException, ReflectiveOperationException {
        String readme = Files.readString(Path.of("README.md"));
        ReadmeTest test = new ReadmeTest();
        test.runExamples(readme);
        for (Method method : LevelTypes.class.getDeclaredMethods()) {
            if (Modifier.isPublic(method.getModifiers())) {
                expect.holds("an example of " + method.getName(), test.shown.contains(method.getName()));
                expect.holds("a row for " + method.getName(), readme.contains("\n| `" + method.getName() + "("));
            }
        }
        expect.holds("how to run the tests", readme.contains("\n    .ci/run\n"));
        expect.finish();
    }

    private void runExamples(String readme) throws ReflectiveOperationException {
        boolean example = false;
        for (String line : readme.split("\n")) {
            if (line.startsWith("```")) {
                example = line.equals("```java");
            } else if (example) {
                runLine(line);
            }
        }
    }

    private void runLine(String line) throws ReflectiveOperationException {
        if (line.equals("LevelTypes x = new LevelTypes();")) {
            x = new LevelTypes();
            return;
        }
        Matcher call = CALL.matcher(line);
        boolean readable = x != null && call.matches();
        expect.holds("can be read: " + line, readable);
        if (readable) {
            compare(line, call);
        }
    }

    private void compare(String line, Matcher call) throws ReflectiveOperationException {
        Method method = named(call.group(1));
        shown.add(method.getName());
        Object answer = method.invoke(x, arguments(method, call.group(2)));
        String written = call.group(3);
        expect.holds("an answer only where there is one: " + line, (answer == null) == (written == null));
        if (answer != null && written != null) {
            expect.same(line, (Integer) answer, Integer.parseInt(written));
        }
    }

    private static Method named(String name) throws NoSuchMethodException {
        for (Method method : LevelTypes.class.getDeclaredMethods()) {
            if (method.getName().equals(name) && Modifier.isPublic(method.getModifiers())) {
                return method;
            }
        }
        throw new NoSuchMethodException(name);
    }

    private static Object[] arguments(Method method, String written) {
        Class<?>[] types = method.getParameterTypes();
        String[] texts = written.isEmpty() ? new String[0] : written.split(", ");
        Object[] values = new Object[texts.length];
        for (int i = 0; i < texts.length; i++) {
            if (types[i] == boolean.class) {
                values[i] = Boolean.valueOf(texts[i]);
            } else if (types[i] == long.class) {
                values[i] = Long.valueOf(texts[i]);
            } else {
                values[i] = Integer.valueOf(texts[i]);
            }
        }
        return values;
    }
}
