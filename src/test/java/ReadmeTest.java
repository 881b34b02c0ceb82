import java.io.IOException;
import java.lang.reflect.Method;
import java.nio.file.Files;
import java.nio.file.Path;
import java.util.regex.Matcher;
import java.util.regex.Pattern;

/** The calls that README.md shows answer what it says behind them. */
public final class ReadmeTest {
    private static final Pattern CALL = Pattern.compile("x\\.(\\w+)\\((.*)\\);\\s+// (-?\\d+): \\S.*");
    private static int shown = 0;
    private static int wrong = 0;

    private static Object argument(Class<?> type, String told) {
        if (type == boolean.class) return Boolean.valueOf(told);
        if (type == long.class) return Long.decode(told.replace("L", ""));
        return Integer.decode(told);
    }

    private static long answer(WarmNight x, String name, String told) throws ReflectiveOperationException {
        String[] args = told.isEmpty() ? new String[0] : told.split(", ");
        for (Method m : WarmNight.class.getMethods()) {
            if (!m.getName().equals(name) || m.getParameterCount() != args.length) continue;
            Object[] values = new Object[args.length];
            for (int i = 0; i < args.length; i++) values[i] = argument(m.getParameterTypes()[i], args[i]);
            return ((Number) m.invoke(x, values)).longValue();
        }
        throw new NoSuchMethodException(name);
    }

    private static void check(WarmNight x, String line) throws ReflectiveOperationException {
        Matcher m = CALL.matcher(line);
        if (!m.matches()) {
            wrong++;
            System.out.println("not a call with its answer: " + line);
            return;
        }
        shown++;
        long got = answer(x, m.group(1), m.group(2));
        if (got != Long.parseLong(m.group(3))) {
            wrong++;
            System.out.println(line + " (answered " + got + ")");
        }
    }

    public static void main(String[] args) throws IOException, ReflectiveOperationException {
        String[] parts = Files.readString(Path.of("README.md")).split("```java\n|```\n");
        WarmNight x = new WarmNight();
        String[] lines = parts.length > 1 ? parts[1].split("\n") : new String[0];
        for (int i = 1; i < lines.length; i++) {
            if (!lines[i].isBlank()) check(x, lines[i]);
        }
        System.out.println(shown + " calls shown, " + wrong + " not as said");
        if (wrong != 0 || shown == 0) System.exit(1);
    }
}
