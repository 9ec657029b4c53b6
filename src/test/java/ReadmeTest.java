import java.io.IOException;
import java.lang.reflect.Method;
import java.nio.file.Files;
import java.nio.file.Path;
import java.util.regex.Matcher;
import java.util.regex.Pattern;

/** The calls that README.md shows, one behind the other on one object, answer what stands behind them. */
public final class ReadmeTest {
    private static final Pattern CALL = Pattern.compile("x\\.(\\w+)\\(([^)]*)\\);\\s*// (-?\\d+).*");

    private ReadmeTest() {
    }

    public static void main(String[] args) throws IOException, ReflectiveOperationException {
        Check check = new Check();
        check.part("README.md");
        IntervalSignal x = new IntervalSignal();
        for (String line : Files.readAllLines(Path.of("README.md"))) {
            Matcher call = CALL.matcher(line);
            if (call.matches()) {
                check.due(line, answer(x, call.group(1), call.group(2)), Long.parseLong(call.group(3)));
            }
        }
        check.due("calls shown, if there are some", check.right() + check.wrong() > 0 ? 1 : 0, 1);
        check.close();
    }

    private static long answer(IntervalSignal x, String name, String numbers) throws ReflectiveOperationException {
        String[] texts = numbers.isBlank() ? new String[0] : numbers.split(",\\s*");
        for (Method m : IntervalSignal.class.getMethods()) {
            if (m.getName().equals(name) && m.getParameterCount() == texts.length) {
                Object[] given = new Object[texts.length];
                for (int i = 0; i < texts.length; i++) {
                    long number = Long.decode(texts[i]);
                    given[i] = m.getParameterTypes()[i] == long.class ? (Object) number : (Object) (int) number;
                }
                return ((Number) m.invoke(x, given)).longValue();
            }
        }
        throw new IllegalStateException("README.md shows a call that there is not: " + name);
    }
}
