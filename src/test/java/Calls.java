import java.lang.reflect.InvocationTargetException;
import java.lang.reflect.Method;
import java.lang.reflect.Modifier;
import java.util.Arrays;
import java.util.Comparator;
import java.util.List;

/** Calls of the document's face, on a StartChain or a ChainModel alike, with their answers as text. */
final class Calls {
    /** In a fixed order, as the order of getDeclaredMethods is not told. */
    static final List<Method> FACE = Arrays.stream(StartChain.class.getDeclaredMethods())
            .filter(method -> Modifier.isPublic(method.getModifiers()))
            .sorted(Comparator.comparing(Method::getName)).toList();

    private Calls() { }

    static Method named(String name) {
        for (Method method : FACE) {
            if (method.getName().equals(name)) {
                return method;
            }
        }
        throw new IllegalArgumentException("no method " + name);
    }

    static String answer(Object on, String name, Object... arguments) {
        return answer(on, named(name), arguments);
    }

    static String answer(Object on, Method method, Object... arguments) {
        try {
            Method same = on instanceof StartChain ? method
                    : on.getClass().getMethod(method.getName(), method.getParameterTypes());
            return String.valueOf(same.invoke(on, arguments));
        } catch (InvocationTargetException e) {
            Throwable thrown = e.getCause();
            boolean own = !(on instanceof StartChain) || Check.isThrownByStartChain(thrown);
            return "throws " + thrown.getClass().getSimpleName() + (own ? "" : " by the machine");
        } catch (ReflectiveOperationException e) {
            throw new IllegalStateException(e);
        }
    }

    static boolean isThrown(String answer) {
        return answer.startsWith("throws");
    }
}
