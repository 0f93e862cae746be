import java.lang.reflect.InvocationTargetException;
import java.lang.reflect.Method;
import java.lang.reflect.Modifier;
import java.util.HashMap;
import java.util.Map;

/** Makes a call that is written as a text: "way(0, 1, 5)"; NONE, MIN and MAX stand for numbers. */
final class Calls {
    private static final Map<String, Method> METHODS = new HashMap<>();

    static {
        for (Method method : HedgeMaze.class.getDeclaredMethods()) {
            if (Modifier.isPublic(method.getModifiers())) {
                METHODS.put(method.getName(), method);
            }
        }
    }

    private Calls() {
    }

    static int ask(HedgeMaze x, String call) {
        int open = call.indexOf('(');
        String inside = call.substring(open + 1, call.indexOf(')')).trim();
        String[] parts = inside.isEmpty() ? new String[0] : inside.split(" *, *");
        Method method = METHODS.get(call.substring(0, open));
        if (method == null || method.getParameterCount() != parts.length) {
            throw new IllegalStateException("a test's own call is none: " + call);
        }
        Object[] given = new Object[parts.length];
        for (int i = 0; i < given.length; i++) {
            boolean isLong = method.getParameterTypes()[i] == long.class;
            long number = number(parts[i], isLong);
            given[i] = isLong ? (Object) number : (Object) (int) number;
        }
        try {
            return (Integer) method.invoke(x, given);
        } catch (IllegalAccessException | InvocationTargetException broken) {
            throw new IllegalStateException(call, broken);
        }
    }

    private static long number(String text, boolean isLong) {
        switch (text) {
            case "NONE":
                return HedgeMaze.NONE;
            case "MIN":
                return isLong ? Long.MIN_VALUE : Integer.MIN_VALUE;
            case "MAX":
                return isLong ? Long.MAX_VALUE : Integer.MAX_VALUE;
            default:
                return Long.parseLong(text);
        }
    }
}
