import java.lang.reflect.InvocationTargetException;
import java.lang.reflect.Method;
import java.lang.reflect.Modifier;
import java.util.Arrays;
import java.util.HashMap;
import java.util.Map;

/** Calls by a method's name, with answers as texts. */
final class Calls {
    private Calls() {
    }

    static Map<String, Method> methodsOf(Class<?> of) {
        Map<String, Method> found = new HashMap<>();
        for (Method method : of.getDeclaredMethods()) {
            if (Modifier.isPublic(method.getModifiers())) {
                found.put(method.getName(), method);
            }
        }
        return found;
    }

    /** What the call answers, or the name of the exception that it throws. */
    static String answer(Method method, Object object, int... arguments) {
        try {
            return String.valueOf(method.invoke(object, Arrays.stream(arguments).boxed().toArray()));
        } catch (InvocationTargetException thrown) {
            return thrown.getCause().getClass().getSimpleName();
        } catch (IllegalAccessException refused) {
            throw new IllegalStateException(refused);
        }
    }
}
