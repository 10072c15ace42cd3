import java.lang.reflect.Field;
import java.lang.reflect.InvocationTargetException;
import java.lang.reflect.Method;

/** Reaches inside an object, for the few edges that no call of the face can come to. */
final class Inside {
    private Inside() {
    }

    static Object field(Object owner, String name) {
        try {
            Field found = owner.getClass().getDeclaredField(name);
            found.setAccessible(true);
            return found.get(owner);
        } catch (ReflectiveOperationException e) {
            throw new IllegalStateException("no field " + name, e);
        }
    }

    static Object sponge(ModuleKem x) {
        return field(field(x, "kem"), "sponge");
    }

    /** Calls the one method of that name; what it throws is thrown on. */
    static void call(Object owner, String name, Object... arguments) {
        for (Method method : owner.getClass().getDeclaredMethods()) {
            if (method.getName().equals(name)) {
                invoke(method, owner, arguments);
                return;
            }
        }
        throw new IllegalStateException("no method " + name);
    }

    private static void invoke(Method method, Object owner, Object[] arguments) {
        try {
            method.setAccessible(true);
            method.invoke(owner, arguments);
        } catch (InvocationTargetException e) {
            if (e.getCause() instanceof RuntimeException thrown) {
                throw thrown;
            }
            throw new IllegalStateException(e);
        } catch (IllegalAccessException e) {
            throw new IllegalStateException(e);
        }
    }
}
