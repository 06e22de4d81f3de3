import java.lang.reflect.Constructor;
import java.lang.reflect.Field;
import java.lang.reflect.Method;
import java.lang.reflect.Modifier;
import java.util.Arrays;
import java.util.Set;
import java.util.TreeSet;
import java.util.stream.Collectors;

/** The public face: exactly the constructor and the methods of the document, and no other member that shows. */
public final class FaceTest {
    private static final String[] METHODS = {
        "boolean setTrusted(int,boolean) IllegalArgumentException",
        "int addStage(int) IllegalArgumentException,IllegalStateException",
        "int install(int,int,int,int) IndexOutOfBoundsException,IllegalArgumentException",
        "boolean setBad(int,int,boolean) IndexOutOfBoundsException,NoSuchElementException",
        "int version(int,int) IndexOutOfBoundsException,NoSuchElementException",
        "int active(int) IndexOutOfBoundsException",
        "char reason(int,int) IndexOutOfBoundsException",
        "int counter(int) IndexOutOfBoundsException",
        "boolean start() IllegalStateException",
        "int stop() IllegalStateException",
        "int commit() IllegalStateException",
        "char state() ",
        "int runsFrom(int) IndexOutOfBoundsException,NoSuchElementException",
        "int fallbacks() ",
        "int register(int) IndexOutOfBoundsException",
        "int registerByLog(int) IndexOutOfBoundsException",
        "int forecast(int) IndexOutOfBoundsException,IllegalStateException",
        "int entries() ",
        "int entry(int) IndexOutOfBoundsException",
        "int seal(int,int) IllegalArgumentException,IllegalStateException",
        "int sealAhead(int) IndexOutOfBoundsException,IllegalStateException",
        "boolean opens(int) IndexOutOfBoundsException",
        "boolean isLost(int) IndexOutOfBoundsException",
        "int nextOpen(int) NoSuchElementException",
        "int setAgreed(int,boolean) IndexOutOfBoundsException",
        "int recover(int) IndexOutOfBoundsException,IllegalStateException,UnsupportedOperationException",
        "float openShare() ArithmeticException",
        "double meanVersion() ArithmeticException",
    };

    public static void main(String[] args) {
        Check check = new Check();
        Class<?> face = StartChain.class;
        check.same("the class is public and final", true,
                Modifier.isPublic(face.getModifiers()) && Modifier.isFinal(face.getModifiers()));
        check.same("constructors", 1, face.getDeclaredConstructors().length);
        for (Constructor<?> constructor : face.getDeclaredConstructors()) {
            check.same("constructor is public", true, Modifier.isPublic(constructor.getModifiers()));
            check.same("constructor's parameters", 0, constructor.getParameterCount());
        }
        check.same("methods that show", new TreeSet<>(Arrays.asList(METHODS)), shownMethods(face));
        checkHiddenNames(check, face);
        for (Field field : face.getDeclaredFields()) {
            check.same("private field " + field.getName(), true, Modifier.isPrivate(field.getModifiers()));
        }
        check.finish();
    }

    private static Set<String> shownMethods(Class<?> face) {
        Set<String> shown = new TreeSet<>();
        for (Method method : face.getDeclaredMethods()) {
            if (!Modifier.isPrivate(method.getModifiers()) && !method.isSynthetic()) {
                shown.add(describe(method));
            }
        }
        return shown;
    }

    /** No private method, nor one of a class inside, bears the name of a public one. */
    private static void checkHiddenNames(Check check, Class<?> face) {
        Set<String> names = Arrays.stream(face.getDeclaredMethods())
                .filter(m -> Modifier.isPublic(m.getModifiers())).map(Method::getName).collect(Collectors.toSet());
        for (Method method : face.getDeclaredMethods()) {
            check.same("name of a public method borne by a private one: " + method.getName(), false,
                    Modifier.isPrivate(method.getModifiers()) && names.contains(method.getName()));
        }
        for (Class<?> inside : face.getDeclaredClasses()) {
            for (Method method : inside.getDeclaredMethods()) {
                check.same("name of a public method borne inside: " + method.getName(), false,
                        names.contains(method.getName()));
            }
        }
    }

    private static String describe(Method method) {
        return method.getReturnType().getSimpleName() + " " + method.getName() + "("
                + join(method.getParameterTypes()) + ") " + join(method.getExceptionTypes());
    }

    private static String join(Class<?>[] types) {
        return Arrays.stream(types).map(Class::getSimpleName).collect(Collectors.joining(","));
    }
}
