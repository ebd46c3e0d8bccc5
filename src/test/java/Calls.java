import java.lang.reflect.InvocationTargetException;
import java.lang.reflect.Method;

/** Calls that are written as in the document, "give(0, 1, true)", made on the class or on the reference. */
final class Calls {
    private Calls() {
    }

    /** The answer as a text; an exception is answered as "throws." and its name. */
    static String answer(Object target, String call) {
        int open = call.indexOf('(');
        String inside = call.substring(open + 1, call.length() - 1).trim();
        String[] written = inside.isEmpty() ? new String[0] : inside.split(",");
        Method method = find(target, call.substring(0, open), written.length);
        Object[] values = new Object[written.length];
        for (int k = 0; k < values.length; k++) {
            values[k] = value(method.getParameterTypes()[k], written[k].trim());
        }
        try {
            return String.valueOf(method.invoke(target, values));
        } catch (InvocationTargetException e) {
            return "throws." + nameOf(e.getCause());
        } catch (IllegalAccessException e) {
            throw new IllegalStateException(call, e);
        }
    }

    /** Those of java.lang by their simple names: the document's exceptions are, and so are the machine's. */
    private static String nameOf(Throwable thrown) {
        return thrown.getClass().getName().replace("java.lang.", "");
    }

    private static Method find(Object target, String name, int count) {
        for (Method m : target.getClass().getDeclaredMethods()) {
            if (m.getName().equals(name) && m.getParameterCount() == count) {
                m.setAccessible(true);
                return m;
            }
        }
        throw new IllegalStateException("no method " + name + " with " + count + " arguments");
    }

    private static Object value(Class<?> type, String written) {
        if (type == boolean.class) {
            return Boolean.valueOf(written);
        }
        if (written.length() == 3 && written.charAt(0) == '\'') {
            return (int) written.charAt(1);
        }
        return Integer.valueOf(written);
    }
}
