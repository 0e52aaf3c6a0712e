import java.lang.reflect.InvocationTargetException;
import java.lang.reflect.Method;
import java.lang.reflect.Modifier;
import java.util.TreeMap;

/** Calls the public methods of an object by their names, and tells each answer as a text. */
final class Face {
    private final TreeMap<String, Method> methods = new TreeMap<>();

    Face(Class<?> of) {
        for (Method method : of.getDeclaredMethods()) {
            if (Modifier.isPublic(method.getModifiers())) {
                methods.put(method.getName(), method);
            }
        }
    }

    Method method(String name) {
        return methods.get(name);
    }

    /**
     * The answer, or "throws " and the exception's exact class: so an exception of the machine that
     * extends the one that is due is told apart from it.
     */
    String call(Object on, String name, Object... arguments) {
        Method method = methods.get(name);
        if (method == null) {
            return "no method " + name;
        }
        try {
            return String.valueOf(method.invoke(on, arguments));
        } catch (InvocationTargetException e) {
            Throwable thrown = e.getCause();
            String byMachine = "/ by zero".equals(thrown.getMessage()) ? " of the machine" : "";
            return "throws " + thrown.getClass().getSimpleName() + byMachine;
        } catch (IllegalAccessException | IllegalArgumentException e) {
            return "cannot be called: " + e;
        }
    }
}
