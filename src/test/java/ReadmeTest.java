import java.io.IOException;
import java.lang.reflect.InvocationTargetException;
import java.lang.reflect.Method;
import java.nio.file.Files;
import java.nio.file.Path;
import java.util.HashMap;
import java.util.Map;
import java.util.regex.Matcher;
import java.util.regex.Pattern;

/** Makes the calls of README.md's example; each has to answer what stands first in the remark behind it. */
public final class ReadmeTest {
    private static final Path README = Path.of("README.md");
    private static final String MADE = "LocatorMapper mapper = new LocatorMapper();";
    private static final Pattern CALL = Pattern.compile(
            "(?:int (\\w+) = )?mapper\\.(\\w+)\\(([^)]*)\\); +// (-?\\w+(?:\\.\\w+)?)(?:[:, ].*)?");

    private static final Checks checks = new Checks();
    private static final LocatorMapper mapper = new LocatorMapper();
    private static final Map<String, Object> named = new HashMap<>();

    public static void main(String[] args) throws IOException {
        boolean isExample = false;
        for (String line : Files.readAllLines(README)) {
            if (line.startsWith("```")) {
                isExample = line.equals("```java");
            } else if (isExample && !line.isEmpty() && !line.equals(MADE)) {
                checks.sentence(line, () -> check(line));
            }
        }
        checks.end();
    }

    private static void check(String line) {
        Matcher call = CALL.matcher(line);
        if (!call.matches()) {
            checks.due("a call with its answer", () -> line);
            return;
        }
        checks.due(call.group(4), () -> {
            Object answer = answer(call.group(2), call.group(3));
            named.put(call.group(1), answer);
            return answer;
        });
    }

    private static Object answer(String name, String listed) {
        String[] texts = listed.isEmpty() ? new String[0] : listed.split(", ");
        Object[] arguments = new Object[texts.length];
        for (int i = 0; i < texts.length; i++) {
            arguments[i] = argument(texts[i]);
        }
        for (Method method : LocatorMapper.class.getDeclaredMethods()) {
            if (method.getName().equals(name)) {
                return invoke(method, arguments);
            }
        }
        throw new UnsupportedOperationException(name);
    }

    private static Object argument(String text) {
        if (text.equals("true") || text.equals("false")) {
            return Boolean.valueOf(text);
        }
        return named.containsKey(text) ? named.get(text) : Integer.valueOf(text);
    }

    private static Object invoke(Method method, Object[] arguments) {
        try {
            return method.invoke(mapper, arguments);
        } catch (InvocationTargetException e) {
            if (e.getCause() instanceof RuntimeException thrown) {
                throw thrown;
            }
            throw new UnsupportedOperationException(e);
        } catch (IllegalAccessException e) {
            throw new UnsupportedOperationException(e);
        }
    }
}
