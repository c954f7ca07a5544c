import java.lang.reflect.Method;
import java.lang.reflect.Modifier;
import java.util.Arrays;
import java.util.HashMap;
import java.util.Map;

/** A call as a text tells it: "state(3, 1600, 1650)". */
record Call(String name, int... given) {
    private static final Map<String, Method> METHODS = new HashMap<>();

    static Call of(String text) {
        int open = text.indexOf('(');
        String inside = text.substring(open + 1, text.length() - 1).trim();
        int[] given = inside.isEmpty() ? new int[0]
                : Arrays.stream(inside.split(",")).mapToInt(part -> Integer.parseInt(part.trim())).toArray();
        return new Call(text.substring(0, open), given);
    }

    /** PlateRoom and Model alike bear the methods of the document's face. */
    static Method method(Class<?> type, String name) {
        return METHODS.computeIfAbsent(type.getName() + "." + name, key -> find(type, name));
    }

    private static Method find(Class<?> type, String name) {
        for (Method method : type.getDeclaredMethods()) {
            if (method.getName().equals(name) && !Modifier.isPrivate(method.getModifiers())) {
                return method;
            }
        }
        throw new IllegalArgumentException("no such call: " + name);
    }

    long on(Object room) {
        Object[] boxed = new Object[given.length];
        for (int i = 0; i < given.length; i++) {
            boxed[i] = given[i];
        }
        try {
            return ((Number) method(room.getClass(), name).invoke(room, boxed)).longValue();
        } catch (ReflectiveOperationException e) {
            throw new IllegalStateException(this + " failed", e);
        }
    }

    @Override
    public String toString() {
        String inside = Arrays.toString(given);
        return name + "(" + inside.substring(1, inside.length() - 1) + ")";
    }
}
