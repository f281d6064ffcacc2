import java.lang.reflect.Method;
import java.nio.file.Files;
import java.nio.file.Path;
import java.util.regex.Matcher;
import java.util.regex.Pattern;

/** The calls of README.md, on one object, each answered as the number behind it says. */
public final class ReadmeTest {
    private static final Pattern CALL = Pattern.compile("x\\.(\\w+)\\(([^)]*)\\);");
    private static final Pattern ANSWER = Pattern.compile("// (-?\\d+)");

    public static void main(String[] args) throws Exception {
        FourCubes x = new FourCubes();
        boolean inJava = false;
        int calls = 0;
        for (String line : Files.readAllLines(Path.of("README.md"))) {
            if (line.startsWith("```")) {
                inJava = line.equals("```java");
            } else if (inJava && line.startsWith("x.")) {
                calls += answered(x, line);
            }
        }
        Check.yes("README.md shows calls", calls > 0);
        Check.yes("README.md makes at most 512 calls", calls <= 512);
        Check.finish("ReadmeTest");
    }

    /** Makes the calls of a line; the answer behind them is the last one's. How many there were. */
    private static int answered(FourCubes x, String line) throws Exception {
        Matcher call = CALL.matcher(line);
        Matcher answer = ANSWER.matcher(line);
        long got = 0;
        int calls = 0;
        while (call.find()) {
            got = ((Number) method(call.group(1)).invoke(x, arguments(call.group(1), call.group(2)))).longValue();
            calls++;
        }
        Check.yes("a call and its answer: " + line, calls > 0 && answer.find());
        Check.due(line, got, Long.parseLong(answer.group(1)));
        return calls;
    }

    private static Method method(String name) {
        for (Method m : FourCubes.class.getMethods()) {
            if (m.getName().equals(name)) {
                return m;
            }
        }
        throw new IllegalStateException("README.md names no call of the class: " + name);
    }

    private static Object[] arguments(String name, String text) {
        Class<?>[] types = method(name).getParameterTypes();
        Object[] values = new Object[types.length];
        String[] parts = text.split(", ");
        for (int k = 0; k < types.length; k++) {
            long value = parts[k].startsWith("'") ? parts[k].charAt(1) : Long.parseLong(parts[k]);
            if (types[k] == long.class) {
                values[k] = value;
            } else {
                values[k] = Math.toIntExact(value);
            }
        }
        return values;
    }
}
