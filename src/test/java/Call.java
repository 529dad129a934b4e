import java.lang.reflect.InvocationTargetException;
import java.lang.reflect.Method;
import java.util.Arrays;
import java.util.HashMap;
import java.util.List;
import java.util.Map;
import java.util.stream.Collectors;

/** A call of the face by its name, so that a call can be written down, shown and made again on a twin. */
record Call(String name, long... numbers) {
    private static final Map<String, Method> METHODS = new HashMap<>();
    /** These only ask: the document tells no change of theirs. */
    private static final List<String> ASKING = List.of("at", "sum", "isOf", "near", "liesIn", "commons", "between",
            "by", "sources", "count");

    static {
        for (Method method : LostLetters.class.getMethods()) {
            METHODS.put(method.getName(), method);
        }
    }

    boolean onlyAsks() {
        return ASKING.contains(name);
    }

    long on(LostLetters x) {
        Method method = METHODS.get(name);
        Class<?>[] types = method.getParameterTypes();
        Object[] values = new Object[types.length];
        for (int i = 0; i < types.length; i++) {
            if (types[i] == long.class) {
                values[i] = numbers[i];
            } else {
                values[i] = Math.toIntExact(numbers[i]);
            }
        }
        try {
            return ((Number) method.invoke(x, values)).longValue();
        } catch (InvocationTargetException | IllegalAccessException e) {
            throw new IllegalStateException(this + " threw", e);
        }
    }

    @Override
    public String toString() {
        return name + Arrays.stream(numbers).mapToObj(Long::toString).collect(Collectors.joining(", ", "(", ")"));
    }
}
