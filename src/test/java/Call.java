import java.lang.reflect.Method;
import java.util.Arrays;
import java.util.HashMap;
import java.util.Map;

/** A call told as text, such as "clock(1, -40)", so that what is printed is what was called. */
final class Call {
    private static final Map<String, Call> READ = new HashMap<>();

    private final Method asked;
    private final Method told;
    private final Object[] arguments;

    private Call(String text) {
        int open = text.indexOf('(');
        String name = text.substring(0, open);
        arguments = Arrays.stream(text.substring(open + 1, text.length() - 1).split(","))
            .map(Call::number).toArray();
        Class<?>[] types = new Class<?>[arguments.length];
        Arrays.fill(types, int.class);
        try {
            asked = PathSounder.class.getMethod(name, types);
            told = Model.class.getDeclaredMethod(name, types);
        } catch (NoSuchMethodException e) {
            throw new IllegalArgumentException(text, e);
        }
    }

    static Call of(String text) {
        return READ.computeIfAbsent(text, Call::new);
    }

    private static Integer number(String text) {
        switch (text.trim()) {
            case "min": return Integer.MIN_VALUE;
            case "max": return Integer.MAX_VALUE;
            default: return Integer.valueOf(text.trim());
        }
    }

    int on(PathSounder x) {
        return answer(asked, x);
    }

    int on(Model x) {
        return answer(told, x);
    }

    private int answer(Method method, Object x) {
        try {
            return (Integer) method.invoke(x, arguments);
        } catch (ReflectiveOperationException e) {
            throw new IllegalStateException(method.getName() + Arrays.toString(arguments), e);
        }
    }
}
