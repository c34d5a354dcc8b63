import java.io.IOException;
import java.nio.file.Files;
import java.nio.file.Path;
import java.util.List;
import java.util.regex.Matcher;
import java.util.regex.Pattern;

/** What of LANGUAGE.md can be seen in the lines of src/main/java/TestJudge.java; run from the project's folder. */
public final class RulesTest {
    private static final List<String> REFUSED = List.of("->", "::", "try", "catch", "finally", "synchronized", "assert",
        "instanceof", "Object", "System.out", "System.err", "Random", "nanoTime", "currentTimeMillis", "Exact(",
        "getMessage", "hashCode", "double", "float", "var ", "static {", "yield ", "record ", "Thread", "@");
    private static int wrong = 0;

    public static void main(String[] args) throws IOException {
        List<String> lines = Files.readAllLines(Path.of("src/main/java/TestJudge.java"));
        for (int i = 0; i < lines.size(); i++) {
            line(i + 1, lines.get(i));
        }
        methods(lines);
        System.out.println("RulesTest: " + (wrong == 0 ? "nothing refused" : wrong + " wrong"));
        if (wrong != 0) {
            System.exit(1);
        }
    }

    private static void line(int number, String line) {
        String code = line.trim().startsWith("*") || line.trim().startsWith("/") ? "" : line;
        for (String word : REFUSED) {
            check(number, "has " + word, !code.contains(word));
        }
        if (code.startsWith("import")) {
            check(number, "imports another class",
                    code.equals("import java.util.Arrays;") || code.equals("import java.util.NoSuchElementException;"));
        }
        check(number, "throws another exception",
                !code.contains("throw new") || code.contains("throw new NoSuchElementException()"));
        check(number, "is too long", line.length() <= 120);
        for (char c : line.toCharArray()) {
            check(number, "has a sign above 126", c < 127);
        }
        Matcher call = Pattern.compile("\\b(Arrays|System|Integer|Long|Math)\\.(\\w+)").matcher(code);
        while (call.find()) {
            boolean fine = List.of("fill", "arraycopy", "bitCount", "numberOfTrailingZeros", "max").contains(call.group(2));
            check(number, "calls " + call.group(), fine);
        }
    }

    /** A method begins with a line that ends in ") {" (or throws) at the depth of members, and ends with its brace. */
    private static void methods(List<String> lines) {
        int start = -1;
        String indent = "";
        for (int i = 0; i < lines.size(); i++) {
            String line = lines.get(i);
            Matcher head = Pattern.compile("^(    |        )[a-zA-Z].*\\) (throws \\w+ )?\\{$").matcher(line);
            if (start < 0 && head.find() && !line.contains(" class ")) {
                start = i;
                indent = head.group(1);
            } else if (start >= 0 && line.equals(indent + "}")) {
                check(start + 1, "begins a method of more than 60 lines", i - start + 1 <= 60);
                start = -1;
            }
        }
    }

    private static void check(int number, String what, boolean fine) {
        if (!fine) {
            wrong++;
            System.out.println("RulesTest: line " + number + " " + what);
        }
    }
}
