import java.io.IOException;
import java.lang.reflect.Method;
import java.nio.charset.StandardCharsets;
import java.nio.file.Files;
import java.nio.file.Path;
import java.util.regex.Matcher;
import java.util.regex.Pattern;

/** The calls that README.md shows, each with the answer that it shows behind it, on one object from first to last. */
public final class ReadmeTest {
    private static final Pattern CALL = Pattern.compile("fires\\.(\\w+)\\((.*)\\); *// (-?\\d+)(:.*)?");
    private static final String FIRST = "TwinFires fires = new TwinFires();";
    private static int wrong = 0;

    public static void main(String[] args) throws IOException {
        TwinFires fires = new TwinFires();
        boolean inside = false;
        int calls = 0;
        for (String line : Files.readAllLines(Path.of("README.md"), StandardCharsets.UTF_8)) {
            if (line.startsWith("```")) {
                inside = line.equals("```java");
            } else if (inside && !line.equals(FIRST)) {
                calls++;
                look(fires, line);
            }
        }
        if (calls < 40) {
            fail("README.md shows only " + calls + " calls");
        }
        System.out.println(wrong == 0 ? "README.md tells the truth" : wrong + " lines of README.md are wrong");
        if (wrong != 0) {
            System.exit(1);
        }
    }

    private static void fail(String what) {
        wrong++;
        System.out.println(what);
    }

    private static void look(TwinFires fires, String line) {
        Matcher call = CALL.matcher(line);
        if (!call.matches()) {
            fail("not a call with its answer: " + line);
            return;
        }
        long got = answer(fires, call.group(1), call.group(2).isEmpty() ? new String[0] : call.group(2).split(", "));
        if (got != Long.parseLong(call.group(3))) {
            fail(line + " answered " + got);
        }
    }

    private static long answer(TwinFires fires, String name, String[] args) {
        for (Method method : TwinFires.class.getMethods()) {
            if (method.getName().equals(name) && method.getParameterCount() == args.length) {
                Object[] values = new Object[args.length];
                for (int i = 0; i < args.length; i++) {
                    values[i] = value(method.getParameterTypes()[i], args[i]);
                }
                try {
                    return ((Number) method.invoke(fires, values)).longValue();
                } catch (ReflectiveOperationException e) {
                    throw new IllegalStateException(e);
                }
            }
        }
        throw new IllegalStateException("no call " + name);
    }

    private static Object value(Class<?> type, String text) {
        if (type == boolean.class) {
            return Boolean.valueOf(text);
        }
        return type == long.class ? (Object) Long.decode(text.replace("L", "")) : Integer.valueOf(text);
    }
}
