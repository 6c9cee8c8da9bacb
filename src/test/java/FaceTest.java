import java.lang.reflect.Constructor;
import java.lang.reflect.Method;
import java.lang.reflect.Modifier;
import java.util.Arrays;
import java.util.List;
import java.util.TreeSet;

/** The public face: just what the document tells, with the exceptions that it tells. */
final class FaceTest {
    private static final List<String> DUE = List.of(
            "bounds(int, int, int, int) int [IllegalArgumentException]",
            "clear() int []",
            "count(int) int [IllegalArgumentException]",
            "element(int, int) double [IndexOutOfBoundsException]",
            "make(int, int, int, int) int [IllegalArgumentException, IllegalStateException]",
            "node(int, int) int [IllegalArgumentException, IndexOutOfBoundsException]",
            "procedure(int, int, int, int) void [IllegalArgumentException]",
            "put(int, double) double [IllegalArgumentException]",
            "variable(int) double [IllegalArgumentException]",
            "work(int) double [ArithmeticException, IllegalArgumentException, IllegalStateException, "
                    + "IndexOutOfBoundsException, NoSuchElementException, UnsupportedOperationException]");

    public static void main(String[] args) {
        int modifiers = NameForge.class.getModifiers();
        if (!Modifier.isPublic(modifiers) || !Modifier.isFinal(modifiers)) {
            Check.tell("the class is not public and final");
        }
        Constructor<?>[] constructors = NameForge.class.getDeclaredConstructors();
        if (constructors.length != 1 || constructors[0].getParameterCount() != 0
                || !Modifier.isPublic(constructors[0].getModifiers())) {
            Check.tell("the constructors are not the one of the document");
        }
        TreeSet<String> seen = new TreeSet<>();
        for (Method m : NameForge.class.getDeclaredMethods()) {
            if (!Modifier.isPrivate(m.getModifiers()) && !m.isSynthetic()) {
                seen.add(told(m));
            }
        }
        if (!List.copyOf(seen).equals(DUE)) {
            Check.tell("the face is " + seen + ", due is " + DUE);
        }
        Check.end();
    }

    private static String told(Method m) {
        TreeSet<String> thrown = new TreeSet<>();
        for (Class<?> e : m.getExceptionTypes()) {
            thrown.add(e.getSimpleName());
        }
        String parameters = Arrays.toString(m.getParameterTypes()).replace("[", "(").replace("]", ")");
        return m.getName() + parameters + " " + m.getReturnType() + " " + thrown;
    }
}
