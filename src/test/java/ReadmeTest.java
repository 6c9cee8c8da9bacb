import java.nio.file.Path;
import java.util.ArrayList;
import java.util.List;

/** The example of README.md stands here line by line and answers what README.md says. */
final class ReadmeTest {
    private static final Path README = Path.of("README.md");
    private static final Path HERE = Path.of("src/test/java/ReadmeTest.java");

    private ReadmeTest() {
    }

    public static void main(String[] args) {
        example();
        List<String> told = between(Doc.linesOf(README), "```java", "```");
        List<String> run = between(Doc.linesOf(HERE), "// The example begins.", "// The example ends.");
        if (told.isEmpty() || !told.equals(run)) {
            Check.tell("README.md shows " + told + ", but what is run here is " + run);
        }
        Check.end();
    }

    private static void example() {
        // The example begins.
        NameForge x = new NameForge();
        int i = x.make(10, 0, -1, -1);                   // PARAMETER 0, by name: the index
        int term = x.make(10, 1, -1, -1);                // PARAMETER 1, by name: what is summed
        int total = x.make(11, 0, -1, -1);               // LOCAL 0
        int one = x.make(0, 8, -1, -1);                  // NUMBER 8 / 8
        int five = x.make(0, 40, -1, -1);                // NUMBER 40 / 8
        int sum = x.make(13, total, x.make(3, total, term, -1), -1);    // total := total + term
        int next = x.make(13, i, x.make(3, i, one, -1), -1);            // i := i + 1
        int turn = x.make(14, sum, next, -1);            // sum, then next
        int loop = x.make(15, x.make(8, i, five, -1), turn, -1);        // while i < 5
        x.procedure(0, x.make(14, loop, total, -1), 2, 3);              // two parameters, both by name

        int k = x.make(1, 0, -1, -1);                    // VARIABLE 0
        int call = x.make(12, 0, k, x.make(5, k, k, -1));               // CALL 0 (k, k * k)
        x.put(0, 1);
        double squares = x.work(call);                   // 30: 1 + 4 + 9 + 16
        double index = x.variable(0);                    // 5: it was set where the caller stands
        int worked = x.count(2);                         // 76 nodes were worked out for that
        // The example ends.
        Check.due("the squares", 30, () -> squares);
        Check.due("the index", 5, () -> index);
        Check.due("the nodes worked out", 76, () -> worked);
    }

    /** The lines between these two, without the spaces in front of them. */
    private static List<String> between(List<String> lines, String first, String last) {
        List<String> found = new ArrayList<>();
        boolean isInside = false;
        for (String line : lines) {
            String text = line.trim();
            if (text.equals(last)) {
                isInside = false;
            }
            if (isInside) {
                found.add(text);
            }
            if (text.equals(first)) {
                isInside = true;
            }
        }
        return found;
    }
}
