import java.io.IOException;
import java.lang.reflect.Method;
import java.nio.file.Files;
import java.nio.file.Path;
import java.util.regex.Matcher;
import java.util.regex.Pattern;

/** The examples of README.md: each call there gives the answer that stands behind it. */
public final class ReadmeTest {
    private static final Pattern CALL = Pattern.compile("x\\.(\\w+)\\(([^)]*)\\); +// (-?\\d+)(:.*)?");

    public static void main(String[] args) throws IOException, ReflectiveOperationException {
        PerformRanges x = null;
        boolean inExample = false;
        int examples = 0;
        for (String line : Files.readAllLines(Path.of("README.md"))) {
            Check.about("README.md, example " + examples);
            Matcher call = CALL.matcher(line);
            if (line.startsWith("```")) {
                inExample = line.equals("```java");
                examples += inExample ? 1 : 0;
            } else if (inExample && line.equals("PerformRanges x = new PerformRanges();")) {
                x = new PerformRanges();
            } else if (inExample && x != null && call.matches()) {
                Check.due(line, answer(x, call.group(1), call.group(2)), Long.parseLong(call.group(3)));
            } else if (inExample) {
                Check.due(line, "no call with its answer", "one");
            }
        }
        Check.about("README.md");
        Check.due("examples", examples, 3);
        Check.finish();
    }

    private static long answer(PerformRanges x, String name, String args) throws ReflectiveOperationException {
        Method method = methodOf(name);
        Class<?>[] types = method.getParameterTypes();
        String[] texts = args.split(", ");
        Check.due("arguments of " + name, texts.length, types.length);
        Object[] values = new Object[types.length];
        for (int i = 0; i < types.length; i++) {
            values[i] = valueOf(types[i], texts[i]);
        }
        return ((Number) method.invoke(x, values)).longValue();
    }

    private static Method methodOf(String name) throws NoSuchMethodException {
        for (Method method : PerformRanges.class.getMethods()) {
            if (method.getDeclaringClass() == PerformRanges.class && method.getName().equals(name)) {
                return method;
            }
        }
        throw new NoSuchMethodException(name);
    }

    private static Object valueOf(Class<?> type, String text) {
        if (type == boolean.class) {
            return Boolean.valueOf(text);
        }
        if (type == long.class) {
            return sum(text);
        }
        return (int) sum(text);
    }

    /** Numbers are written in the examples as sums of products. */
    private static long sum(String text) {
        long sum = 0;
        for (String summand : text.split(" \\+ ")) {
            long product = 1;
            for (String factor : summand.split(" \\* ")) {
                product *= Long.parseLong(factor);
            }
            sum += product;
        }
        return sum;
    }
}
