import java.lang.reflect.InvocationTargetException;
import java.lang.reflect.Method;
import java.util.HashMap;
import java.util.Map;

/** Calls the methods of the document's face by name, on the exchange or on the model of it. */
final class Face {
    private final Object object;
    private final Map<String, Method> methods = new HashMap<>();

    Face(Object object) {
        this.object = object;
        for (Method method : object.getClass().getDeclaredMethods()) {
            if (java.lang.reflect.Modifier.isPublic(method.getModifiers())) {
                methods.put(method.getName(), method);
            }
        }
    }

    /** The answer of a call: its value, or the full name of what it throws. */
    Object answer(String name, Object... arguments) {
        try {
            return methods.get(name).invoke(object, arguments);
        } catch (InvocationTargetException wrapped) {
            return "throws " + wrapped.getCause().getClass().getName();
        } catch (IllegalAccessException refused) {
            throw new IllegalStateException(name, refused);
        }
    }
}
