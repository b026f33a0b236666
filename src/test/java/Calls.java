import java.lang.reflect.InvocationTargetException;
import java.lang.reflect.Method;
import java.lang.reflect.Modifier;
import java.util.Map;
import java.util.TreeMap;

/** Calls by their names, so that one list of calls can be made on RedSkies and on Slow. */
final class Calls {
    private static final int NEVER_ANSWERED = -987654321;

    private final Object on;
    private final Map<String, Method> methods = new TreeMap<>();
    /** How many calls were made: what an object answers beyond 512 is free. */
    int made = 0;

    Calls(Object on) {
        this.on = on;
        for (Method method : RedSkies.class.getDeclaredMethods()) {
            if (Modifier.isPublic(method.getModifiers())) {
                methods.put(method.getName(), own(method));
            }
        }
    }

    private Method own(Method method) {
        try {
            return on.getClass().getDeclaredMethod(method.getName(), method.getParameterTypes());
        } catch (NoSuchMethodException e) {
            throw new IllegalStateException("no such call: " + method, e);
        }
    }

    Iterable<String> names() {
        return methods.keySet();
    }

    int arguments(String name) {
        return methods.get(name).getParameterCount();
    }

    boolean takesLong(String name) {
        return arguments(name) > 0 && methods.get(name).getParameterTypes()[0] == long.class;
    }

    /** What the call answers; a number that no call answers, if it throws. */
    long call(String name, long... args) {
        made++;
        Object[] told = new Object[args.length];
        for (int i = 0; i < args.length; i++) {
            if (takesLong(name)) {
                told[i] = args[i];
            } else {
                told[i] = (int) args[i];
            }
        }
        try {
            return ((Number) methods.get(name).invoke(on, told)).longValue();
        } catch (InvocationTargetException e) {
            System.out.println(name + " threw " + e.getCause());
            return NEVER_ANSWERED;
        } catch (IllegalAccessException e) {
            throw new IllegalStateException(name + " is not open", e);
        }
    }

    /** Puts a text on THE PAGE. */
    void put(String text) {
        for (int i = 0; i < text.length(); i += 8) {
            call("letters", Due.packed(text.substring(i, Math.min(text.length(), i + 8))));
        }
    }

    /** Puts a text on THE PAGE and reads it by "lamp", "measure" or "law". */
    long read(String name, String text) {
        put(text);
        return call(name);
    }
}
