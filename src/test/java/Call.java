import java.lang.reflect.InvocationTargetException;
import java.lang.reflect.Method;
import java.lang.reflect.Modifier;
import java.util.Arrays;
import java.util.Map;
import java.util.TreeMap;

/** Calls of the face by their names, as the edges are told in rows of names and numbers. */
final class Call {

    static final String ARGUMENT = "throws.IllegalArgumentException";
    static final String INDEX = "throws.IndexOutOfBoundsException";
    static final String STATE = "throws.IllegalStateException";

    private static final Map<String, Method> FACE = new TreeMap<>();

    static {
        for (Method method : DeltaNights.class.getDeclaredMethods()) {
            if (Modifier.isPublic(method.getModifiers())) {
                FACE.put(method.getName(), method);
            }
        }
    }

    private Call() {
    }

    static String told(String name, int... arguments) {
        return name + Arrays.toString(arguments).replace('[', '(').replace(']', ')');
    }

    /** What the call answers, as a text; an exception is answered as throws. and its name. */
    static String answer(DeltaNights house, String name, int... arguments) {
        Object[] boxed = Arrays.stream(arguments).boxed().toArray();
        try {
            return String.valueOf(FACE.get(name).invoke(house, boxed));
        } catch (InvocationTargetException e) {
            return "throws." + e.getCause().getClass().getSimpleName();
        } catch (IllegalAccessException e) {
            throw new IllegalStateException(e);
        }
    }
}
