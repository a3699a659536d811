import java.lang.reflect.InvocationTargetException;
import java.lang.reflect.Method;

/** Calls that are written as a text, as "falls(0, 3)", so that what a document says can be done as it stands there. */
final class Calls {
    private Calls() {
    }

    static long answer(LoopGuesses x, String call) {
        int open = call.indexOf('(');
        String name = call.substring(0, open);
        String inside = call.substring(open + 1, call.lastIndexOf(')')).trim();
        String[] written = inside.isEmpty() ? new String[0] : inside.split(",\\s*");
        for (Method m : LoopGuesses.class.getMethods()) {
            if (m.getDeclaringClass() == LoopGuesses.class && m.getName().equals(name)) {
                return ((Number) invoke(x, m, written)).longValue();
            }
        }
        throw new IllegalStateException("there is no method for " + call);
    }

    private static Object invoke(LoopGuesses x, Method m, String[] written) {
        Class<?>[] types = m.getParameterTypes();
        if (types.length != written.length) {
            throw new IllegalStateException(m.getName() + " has " + types.length + " parameters");
        }
        Object[] values = new Object[written.length];
        for (int i = 0; i < values.length; i++) {
            values[i] = value(types[i], written[i]);
        }
        try {
            return m.invoke(x, values);
        } catch (IllegalAccessException | InvocationTargetException e) {
            throw new IllegalStateException(e);
        }
    }

    private static Object value(Class<?> type, String written) {
        if (type == boolean.class) {
            if (!written.equals("true") && !written.equals("false")) {
                throw new IllegalStateException(written + " is no boolean");
            }
            return written.equals("true");
        }
        if (type == long.class) {
            return Long.parseLong(written.replace("L", ""));
        }
        return written.matches("'.'") ? (int) written.charAt(1) : Integer.parseInt(written);
    }
}
