import java.lang.reflect.Method;
import java.lang.reflect.Modifier;
import java.util.HashMap;
import java.util.Map;
import java.util.StringJoiner;

/** One call of the class by its name, so that a run of calls can be told, and made again on another object. */
record Call(String name, long[] given) {
    private static final Map<String, Method> FACE = face();

    private static Map<String, Method> face() {
        Map<String, Method> found = new HashMap<>();
        for (Method method : CensusNight.class.getDeclaredMethods()) {
            if (Modifier.isPublic(method.getModifiers())) {
                found.put(method.getName(), method);
            }
        }
        return found;
    }

    static Call of(String name, long... given) {
        return new Call(name, given);
    }

    long put(CensusNight census) {
        Method method = FACE.get(name);
        if (method == null || method.getParameterCount() != given.length) {
            throw new IllegalArgumentException("no such call: " + this);
        }
        Class<?>[] types = method.getParameterTypes();
        Object[] arguments = new Object[given.length];
        for (int i = 0; i < given.length; i++) {
            arguments[i] = argument(types[i], given[i]);
        }
        try {
            return ((Number) method.invoke(census, arguments)).longValue();
        } catch (ReflectiveOperationException thrown) {
            throw new IllegalStateException(this + " threw " + thrown.getCause(), thrown);
        }
    }

    private Object argument(Class<?> type, long number) {
        if (type == long.class) {
            return number;
        }
        if (type == boolean.class) {
            return number != 0;
        }
        if ((int) number != number) {
            throw new IllegalArgumentException("no int: " + number + " in " + this);
        }
        return (int) number;
    }

    @Override
    public String toString() {
        StringJoiner text = new StringJoiner(", ", name + "(", ")");
        for (long number : given) {
            text.add(Long.toString(number));
        }
        return text.toString();
    }
}
