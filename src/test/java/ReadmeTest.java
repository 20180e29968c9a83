import java.io.IOException;
import java.lang.reflect.InvocationTargetException;
import java.lang.reflect.Method;
import java.lang.reflect.Modifier;
import java.nio.file.Files;
import java.nio.file.Path;
import java.util.regex.Matcher;
import java.util.regex.Pattern;

/** README.md tells how the class is used: its calls must answer the number that stands behind them. */
public final class ReadmeTest extends Checks {
    private static final Pattern CALL = Pattern.compile("x\\.(\\w+)\\(([^)]*)\\); +// (-?\\d+)");

    public static void main(String[] args) throws IOException, ReflectiveOperationException {
        String readme = Files.readString(Path.of("README.md"));
        int calls = calls(readme);
        due("calls in README.md, more than 10", calls > 10 ? 1 : 0, 1);
        namesEveryCall(readme);
        end("README.md holds");
    }

    private static int calls(String readme) throws ReflectiveOperationException {
        MoorStones x = new MoorStones();
        int calls = 0;
        for (Matcher line = CALL.matcher(readme); line.find(); calls++) {
            due(line.group(), answer(x, line.group(1), line.group(2)), Long.parseLong(line.group(3)));
        }
        return calls;
    }

    private static long answer(MoorStones x, String name, String numbers)
            throws IllegalAccessException, InvocationTargetException {
        String[] texts = numbers.isEmpty() ? new String[0] : numbers.split(", ");
        Method method = named(name);
        Object[] values = new Object[texts.length];
        for (int i = 0; i < texts.length; i++) {
            long value = Long.decode(texts[i].replace("L", ""));
            values[i] = method.getParameterTypes()[i] == long.class ? (Object) value : (Object) (int) value;
        }
        return ((Number) method.invoke(x, values)).longValue();
    }

    private static Method named(String name) {
        for (Method method : MoorStones.class.getDeclaredMethods()) {
            if (method.getName().equals(name)) {
                return method;
            }
        }
        throw new IllegalArgumentException("README.md has a call that there is not: " + name);
    }

    private static void namesEveryCall(String readme) {
        for (Method method : MoorStones.class.getDeclaredMethods()) {
            if (Modifier.isPublic(method.getModifiers())) {
                due("README.md names " + method.getName(), readme.contains("`" + method.getName() + "`") ? 1 : 0, 1);
            }
        }
    }
}
