import java.io.ByteArrayOutputStream;
import java.io.IOException;
import java.io.PrintStream;
import java.net.URL;
import java.net.URLClassLoader;
import java.nio.charset.StandardCharsets;
import java.nio.file.Files;
import java.nio.file.Path;
import java.util.List;
import java.util.stream.Stream;
import javax.tools.JavaCompiler;
import javax.tools.ToolProvider;

/** README.md: its example says what stands below it, each test is named; run from the project's folder. */
public final class ReadmeTest {
    private static int wrong = 0;

    public static void main(String[] args) throws Exception {
        String readme = Files.readString(Path.of("README.md"));
        String said = run(block(readme, "java"));
        check("the example says\n" + said, said.equals(block(readme, "text")));
        for (String test : tests()) {
            check("no test " + test, readme.contains("`" + test + "`"));
        }
        System.out.println("ReadmeTest: " + (wrong == 0 ? "all stands" : wrong + " wrong"));
        if (wrong != 0) {
            System.exit(1);
        }
    }

    private static void check(String what, boolean fine) {
        if (!fine) {
            wrong++;
            System.out.println("ReadmeTest: " + what);
        }
    }

    /** The first one of its kind. */
    private static String block(String readme, String kind) {
        String head = "\n```" + kind + "\n";
        int start = readme.indexOf(head) + head.length();
        return readme.substring(start, readme.indexOf("```\n", start));
    }

    private static List<String> tests() throws IOException {
        try (Stream<Path> files = Files.list(Path.of("src/test/java"))) {
            return files.map(f -> f.getFileName().toString()).filter(n -> n.endsWith("Test.java"))
                    .map(n -> n.substring(0, n.length() - ".java".length())).sorted().toList();
        }
    }

    /** What the class Example says, if it is compiled beside the class under test. */
    private static String run(String source) throws Exception {
        Path folder = Files.createTempDirectory("readme");
        Path file = folder.resolve("Example.java");
        // The last one named goes first.
        folder.toFile().deleteOnExit();
        file.toFile().deleteOnExit();
        folder.resolve("Example.class").toFile().deleteOnExit();
        Files.writeString(file, source);
        JavaCompiler compiler = ToolProvider.getSystemJavaCompiler();
        int code = compiler.run(null, null, null, "-cp", System.getProperty("java.class.path"),
                "-d", folder.toString(), file.toString());
        if (code != 0) {
            return "it does not compile";
        }
        PrintStream out = System.out;
        ByteArrayOutputStream said = new ByteArrayOutputStream();
        try (URLClassLoader loader = new URLClassLoader(new URL[] {folder.toUri().toURL()})) {
            System.setOut(new PrintStream(said, true, StandardCharsets.US_ASCII));
            loader.loadClass("Example").getMethod("main", String[].class).invoke(null, (Object) new String[0]);
        } finally {
            System.setOut(out);
        }
        return said.toString(StandardCharsets.US_ASCII);
    }
}
