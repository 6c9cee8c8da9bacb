import java.lang.reflect.Field;
import java.lang.reflect.Method;
import java.lang.reflect.Modifier;
import java.nio.file.Path;
import java.util.ArrayList;
import java.util.List;
import java.util.Set;
import java.util.TreeSet;
import java.util.regex.Matcher;
import java.util.regex.Pattern;

/** The rules of LANGUAGE.md that can be seen without working anything out; each is told with its number. */
final class LanguageTest {
    private static final Path PROGRAM = Path.of("src/main/java/NameForge.java");
    private static final Set<String> IMPORTS = Set.of("java.util.Arrays", "java.util.ArrayList", "java.util.List",
            "java.util.Iterator", "java.util.NoSuchElementException");
    private static final Set<String> LIBRARY = Set.of("Arrays.fill", "Arrays.copyOf", "Arrays.copyOfRange", "Math.max",
            "Math.min", "Math.abs", "Math.floorDiv", "Math.floorMod", "System.arraycopy");
    private static final Set<String> EXCEPTIONS = Set.of("IllegalStateException", "IllegalArgumentException",
            "IndexOutOfBoundsException", "ArithmeticException", "UnsupportedOperationException",
            "NoSuchElementException", "RuntimeException");
    private static final Set<Class<?>> CONSTANTS = Set.of(int.class, long.class, boolean.class, char.class,
            String.class, int[].class, long[].class, char[].class, byte[].class);
    private static final String NEVER = "\\b(finally|synchronized|assert|protected|native|volatile|transient|Thread"
            + "|Random|equals|hashCode|toString|NaN|getMessage|static \\{)|->|::|@";

    private LanguageTest() {
    }

    public static void main(String[] args) {
        List<Class<?>> classes = new ArrayList<>(List.of(NameForge.class.getDeclaredClasses()));
        for (Class<?> c : classes) {
            if (!Modifier.isStatic(c.getModifiers()) || Modifier.isPublic(c.getModifiers())) {
                Check.tell("rule 1: " + c.getSimpleName() + " is not static, or it is public");
            }
        }
        classes.add(NameForge.class);
        if (classes.size() > 12) {
            Check.tell("rule 11: " + classes.size() + " classes");
        }
        for (Class<?> c : classes) {
            fieldsOf(c);
            methodsOf(c);
        }
        String text = String.join("\n", Doc.linesOf(PROGRAM));
        characters(text);
        words(text.replaceAll("(?s)/\\*.*?\\*/", "").replaceAll("//[^\n]*", ""));
        lengthOfMethods(text);
        Check.end();
    }

    private static void fieldsOf(Class<?> c) {
        int own = 0;
        for (Field f : c.getDeclaredFields()) {
            boolean isFinal = Modifier.isFinal(f.getModifiers());
            if (!Modifier.isStatic(f.getModifiers())) {
                own++;
            } else if (!isFinal || !CONSTANTS.contains(f.getType())) {
                Check.tell("rule 5: the static field " + f.getName());
            }
            if (c == NameForge.class && !Modifier.isPrivate(f.getModifiers())) {
                Check.tell("rule 1: the field " + f.getName() + " is not private");
            }
        }
        if (own > 20) {
            Check.tell("rule 11: " + own + " fields in " + c.getSimpleName());
        }
    }

    private static void methodsOf(Class<?> c) {
        Set<String> face = new TreeSet<>();
        for (Method m : NameForge.class.getMethods()) {
            face.add(m.getName());
        }
        for (Method m : c.getDeclaredMethods()) {
            if (!(c == NameForge.class && Modifier.isPublic(m.getModifiers())) && face.contains(m.getName())) {
                Check.tell("rule 1: " + c.getSimpleName() + " has a method with a name of the face, " + m.getName());
            }
            if (m.getParameterCount() > 7) {
                Check.tell("rule 11: " + m.getParameterCount() + " parameters of " + m.getName());
            }
        }
    }

    private static void characters(String text) {
        for (int i = 0; i < text.length(); i++) {
            if (text.charAt(i) > 126) {
                Check.tell("rule 3: the character " + (int) text.charAt(i));
            }
        }
    }

    private static void words(String code) {
        none("rules 2, 3, 6, 10 or 13", code, NEVER, Set.of());
        none("rule 4, an import", code, "\\bimport ([\\w.*]+)", IMPORTS);
        none("rule 4, the library", code, "(?<!\\.)\\b((?:Arrays|Math|System|Integer|Long|Double|Float|List)\\.\\w+)",
                LIBRARY);
        none("rule 6, an exception", code, "\\bthrow new (\\w+)\\(", EXCEPTIONS);
        none("rule 6, a throw of something else", code, "\\bthrow (?!new )(\\w+)", Set.of());
    }

    /** What the pattern finds (its group, if it has one) must be one of these. */
    private static void none(String rule, String code, String pattern, Set<String> but) {
        Matcher m = Pattern.compile(pattern).matcher(code);
        while (m.find()) {
            String found = m.group(m.groupCount() == 0 || m.group(1) == null ? 0 : 1);
            if (!but.contains(found)) {
                Check.tell(rule + ": " + found);
            }
        }
    }

    /** A method ends where a brace stands as far in as the method itself does. */
    private static void lengthOfMethods(String text) {
        Pattern head = Pattern.compile("(?m)^( {4}| {8})\\w[^;=\\n]*\\([^;{]*\\{\\n");
        Matcher m = head.matcher(text);
        int methods = 0;
        while (m.find()) {
            int end = text.indexOf("\n" + m.group(1) + "}", m.start());
            long lines = text.substring(m.start(), end).lines().count();
            methods++;
            if (lines > 60) {
                Check.tell("rule 11: " + lines + " lines in" + m.group().replaceAll("\\s+", " "));
            }
        }
        if (methods < 11) {
            Check.tell("only " + methods + " methods were found to be measured: this test tests too little");
        }
    }
}
