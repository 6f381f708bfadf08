import java.lang.reflect.InvocationTargetException;
import java.lang.reflect.Method;
import java.util.Arrays;
import java.util.regex.Matcher;
import java.util.regex.Pattern;

/** Calls of the face that are written as texts, such as arc(0, 1, 0, 2, 1), made on an object. */
final class Script {
    private static final Pattern CALL = Pattern.compile("(\\w+)\\((.*)\\)");

    private Script() {
    }

    static int call(ForgettingLines x, String text) throws ReflectiveOperationException {
        Matcher parts = CALL.matcher(text.trim());
        if (!parts.matches()) {
            throw new IllegalArgumentException("no call: " + text);
        }
        String[] written = parts.group(2).isBlank() ? new String[0] : parts.group(2).split(",");
        Method method = methodOf(parts.group(1), written.length);
        Object[] values = new Object[written.length];
        for (int i = 0; i < values.length; i++) {
            values[i] = value(written[i].trim(), method.getParameterTypes()[i]);
        }
        try {
            return (Integer) method.invoke(x, values);
        } catch (InvocationTargetException thrown) {
            throw new IllegalStateException(text + " threw", thrown.getCause());
        }
    }

    private static Method methodOf(String name, int parameters) {
        return Arrays.stream(ForgettingLines.class.getMethods())
            .filter(method -> method.getDeclaringClass() == ForgettingLines.class)
            .filter(method -> method.getName().equals(name) && method.getParameterCount() == parameters)
            .findFirst().orElseThrow(() -> new IllegalArgumentException("no call " + name + " of " + parameters));
    }

    /** A number or truth as Java writes it. */
    private static Object value(String written, Class<?> type) {
        if (type == boolean.class) {
            if (!written.equals("true") && !written.equals("false")) {
                throw new IllegalArgumentException("neither true nor false: " + written);
            }
            return written.equals("true");
        }
        if (type == long.class) {
            return Long.decode(written.replaceFirst("L$", ""));
        }
        return Integer.decode(written);
    }
}
