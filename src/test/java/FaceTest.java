import java.lang.reflect.Constructor;
import java.lang.reflect.Method;
import java.lang.reflect.Modifier;
import java.util.ArrayList;
import java.util.List;
import java.util.TreeSet;

/** The public face: just the lines of the document's own face, with the exceptions that they tell. */
final class FaceTest {
    private static final String CLASS = "public final class NameForge {";

    private FaceTest() {
    }

    public static void main(String[] args) {
        List<String> face = faceOfTheDocument();
        if (face.size() != 11) {
            Check.tell("the document's face has " + face.size() + " members, not a constructor and ten methods");
        }
        sameMembers(face);
        eachPromiseHasItsLine(face);
        noOtherMember();
        Check.end();
    }

    private static List<String> faceOfTheDocument() {
        List<String> lines = Doc.lines();
        List<String> face = new ArrayList<>();
        for (int i = lines.indexOf(CLASS) + 1; i < lines.size() && !lines.get(i).equals("}"); i++) {
            face.add(lines.get(i).trim());
        }
        return face;
    }

    private static void sameMembers(List<String> face) {
        TreeSet<String> due = new TreeSet<>();
        for (String line : face) {
            due.add(withoutNames(line));
        }
        TreeSet<String> seen = new TreeSet<>();
        for (Constructor<?> c : NameForge.class.getDeclaredConstructors()) {
            seen.add(Modifier.toString(c.getModifiers()) + " NameForge" + told(c.getParameterTypes())
                    + thrown(c.getExceptionTypes()) + ";");
        }
        for (Method m : NameForge.class.getDeclaredMethods()) {
            if (!Modifier.isPrivate(m.getModifiers())) {
                seen.add(Modifier.toString(m.getModifiers()) + " " + m.getReturnType() + " " + m.getName()
                        + told(m.getParameterTypes()) + thrown(m.getExceptionTypes()) + ";");
            }
        }
        if (!seen.equals(due)) {
            Check.tell("the face is " + seen + ", due is " + due);
        }
    }

    /** The face's line with the types of its parameters alone, since a class file does not hold their names. */
    private static String withoutNames(String line) {
        int open = line.indexOf('(');
        int close = line.indexOf(')');
        String types = line.substring(open, close).replaceAll("(int|double) \\w+", "$1");
        return line.substring(0, open) + types + line.substring(close);
    }

    private static String told(Class<?>[] types) {
        List<String> names = new ArrayList<>();
        for (Class<?> type : types) {
            names.add(type.getName());
        }
        return "(" + String.join(", ", names) + ")";
    }

    private static String thrown(Class<?>[] types) {
        List<String> names = new ArrayList<>();
        for (Class<?> type : types) {
            names.add(type.getName().replace("java.lang.", ""));
        }
        return names.isEmpty() ? "" : " throws " + String.join(", ", names);
    }

    private static void eachPromiseHasItsLine(List<String> face) {
        TreeSet<String> promised = new TreeSet<>();
        for (String line : Doc.lines()) {
            if (line.startsWith("`") && line.contains("`: ")) {
                promised.add("public " + line.substring(1, line.indexOf("`: ")) + ";");
            }
        }
        if (!promised.equals(new TreeSet<>(face))) {
            Check.tell("the promises are of " + promised + ", the face is " + face);
        }
    }

    private static void noOtherMember() {
        int modifiers = NameForge.class.getModifiers();
        if (!Modifier.isPublic(modifiers) || !Modifier.isFinal(modifiers)) {
            Check.tell("the class is not public and final");
        }
        if (!NameForge.class.getPackageName().isEmpty()) {
            Check.tell("the class stands in a package");
        }
        if (NameForge.class.getFields().length != 0 || NameForge.class.getClasses().length != 0) {
            Check.tell("there is a public field or class that the document does not tell");
        }
        if (NameForge.class.getSuperclass() != Object.class || NameForge.class.getInterfaces().length != 0) {
            Check.tell("the class extends or implements what the document does not tell");
        }
    }
}
