import java.lang.reflect.Method;
import java.lang.reflect.Modifier;
import java.util.Arrays;
import java.util.Map;
import java.util.TreeMap;

/** Calls by their names, so that one row of a test both tells a call and makes it. */
final class Face {
    private static final Map<String, Method> BOOK = of(TyreBook.class);

    private Face() {
    }

    static Map<String, Method> of(Class<?> c) {
        Map<String, Method> face = new TreeMap<>();
        for (Method m : c.getDeclaredMethods()) {
            if (!Modifier.isPrivate(m.getModifiers()) && !m.isSynthetic()) {
                face.put(m.getName(), m);
            }
        }
        return face;
    }

    static String told(String name, int... args) {
        return name + Arrays.toString(args).replace('[', '(').replace(']', ')');
    }

    static long ask(TyreBook x, String name, int... args) {
        return ask(x, BOOK.get(name), args);
    }

    /** A boolean is given as 1 or 0; numbers beyond what the call takes are left out. */
    static long ask(Object x, Method m, int... args) {
        Object[] given = new Object[m.getParameterCount()];
        for (int i = 0; i < given.length; i++) {
            given[i] = m.getParameterTypes()[i] == boolean.class ? (Object) (args[i] == 1) : (Object) args[i];
        }
        try {
            return ((Number) m.invoke(x, given)).longValue();
        } catch (ReflectiveOperationException e) {
            throw new IllegalStateException(told(m.getName(), args), e);
        }
    }
}
