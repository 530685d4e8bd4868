import java.io.IOException;
import java.lang.reflect.InvocationTargetException;
import java.lang.reflect.Method;
import java.nio.file.Files;
import java.nio.file.Path;
import java.util.Set;
import java.util.TreeSet;
import java.util.regex.Matcher;
import java.util.regex.Pattern;

/** Makes the calls of README.md's example, and compares the answers with those that it tells. */
public final class ReadmeTest {
    private static final Path README = Path.of("README.md");
    private static final Pattern CALL = Pattern.compile("orchard\\.(\\w+)\\(([-\\d, ]*)\\); +// (throws \\w+|[-.\\d]+).*");

    private final TwinOrchard orchard = new TwinOrchard();
    private final Set<String> called = new TreeSet<>();

    public static void main(String[] args) throws IOException, IllegalAccessException {
        ReadmeTest example = new ReadmeTest();
        boolean within = false;
        for (String line : Files.readAllLines(README)) {
            if (line.startsWith("```")) {
                within = line.equals("```java");
            } else if (within && !line.isBlank() && !line.startsWith("TwinOrchard orchard = new TwinOrchard();")) {
                example.call(line);
            }
        }
        for (Method method : TwinOrchard.class.getMethods()) {
            if (method.getDeclaringClass() == TwinOrchard.class) {
                Due.same(method.getName() + " stands in the example", example.called.contains(method.getName()) ? 1 : 0, 1);
            }
        }
        Due.end();
    }

    private void call(String line) throws IllegalAccessException {
        Matcher parts = CALL.matcher(line);
        boolean isCall = parts.matches();
        Due.same("a call and its answer: " + line, isCall ? 1 : 0, 1);
        if (isCall) {
            called.add(parts.group(1));
            String got = answer(parts.group(1), numbers(parts.group(2)));
            if (!got.equals(parts.group(3))) {
                Due.tell(line + " answered " + got);
            }
        }
    }

    private static Object[] numbers(String list) {
        if (list.isBlank()) {
            return new Object[0];
        }
        String[] parts = list.split(", ");
        Object[] numbers = new Object[parts.length];
        for (int i = 0; i < parts.length; i++) {
            numbers[i] = Integer.valueOf(parts[i]);
        }
        return numbers;
    }

    private String answer(String name, Object[] numbers) throws IllegalAccessException {
        for (Method method : TwinOrchard.class.getMethods()) {
            if (method.getName().equals(name) && method.getParameterCount() == numbers.length) {
                try {
                    return method.invoke(orchard, numbers).toString();
                } catch (InvocationTargetException e) {
                    return "throws " + e.getCause().getClass().getSimpleName();
                }
            }
        }
        return "no such method";
    }
}
