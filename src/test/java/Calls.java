import java.lang.reflect.InvocationTargetException;
import java.lang.reflect.Method;
import java.lang.reflect.Modifier;
import java.util.Arrays;
import java.util.HashMap;
import java.util.Map;

/** Calls told as texts, "see(0, 8, 1)", so that a test can be a list of them. */
final class Calls {
    private static final Map<String, Method> FACE = new HashMap<>();

    static {
        for (Method m : WalkingOrchard.class.getDeclaredMethods()) {
            if (Modifier.isPublic(m.getModifiers())) {
                FACE.put(m.getName(), m);
            }
        }
    }

    static String told(String name, int... numbers) {
        String inside = Arrays.toString(numbers);
        return name + "(" + inside.substring(1, inside.length() - 1) + ")";
    }

    static int answer(WalkingOrchard o, String call) {
        int open = call.indexOf('(');
        String inside = call.substring(open + 1, call.length() - 1).replace(" ", "");
        Object[] numbers = inside.isEmpty() ? new Object[0]
            : Arrays.stream(inside.split(",")).map(Integer::valueOf).toArray();
        try {
            return (Integer) FACE.get(call.substring(0, open)).invoke(o, numbers);
        } catch (IllegalAccessException | InvocationTargetException e) {
            throw new IllegalStateException(call + " threw", e);
        }
    }

    static void run(WalkingOrchard o, String... calls) {
        for (String call : calls) {
            answer(o, call);
        }
    }
}
