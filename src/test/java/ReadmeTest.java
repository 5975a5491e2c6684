import java.io.IOException;
import java.lang.reflect.Method;
import java.nio.file.Files;
import java.nio.file.Path;
import java.util.regex.Matcher;
import java.util.regex.Pattern;

/** The example of README.md: each of its calls answers what stands behind it there. */
public final class ReadmeTest extends Checks {
    private static final Pattern CALL = Pattern.compile("lock\\.(\\w+)\\(([^)]*)\\); +// (-?\\d+): ");
    private static final int LEAST_CALLS = 15;

    private static long answer(LaneLock lock, String name, String numbers) throws ReflectiveOperationException {
        String[] words = numbers.isEmpty() ? new String[0] : numbers.split(", ");
        Object[] values = new Object[words.length];
        Class<?>[] types = new Class<?>[words.length];
        for (int i = 0; i < words.length; i++) {
            values[i] = Integer.valueOf(words[i]);
            types[i] = int.class;
        }
        Method call = LaneLock.class.getMethod(name, types);
        return ((Number) call.invoke(lock, values)).longValue();
    }

    public static void main(String[] args) throws IOException, ReflectiveOperationException {
        LaneLock lock = new LaneLock();
        int calls = 0;
        for (String line : Files.readAllLines(Path.of("README.md"))) {
            if (!line.startsWith("lock.")) {
                continue;
            }
            Matcher call = CALL.matcher(line);
            if (!call.lookingAt()) {
                fault("no call with its answer: " + line);
                continue;
            }
            calls++;
            due(line, answer(lock, call.group(1), call.group(2)), Long.parseLong(call.group(3)));
        }
        due("calls enough to be an example", calls < LEAST_CALLS ? 0 : 1, 1);
        end("the example's " + calls + " calls");
    }
}
