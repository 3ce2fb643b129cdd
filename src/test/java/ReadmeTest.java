import java.io.ByteArrayOutputStream;
import java.io.File;
import java.io.PrintStream;
import java.net.URL;
import java.net.URLClassLoader;
import java.nio.charset.StandardCharsets;
import java.nio.file.Files;
import java.nio.file.Path;
import java.util.TreeSet;
import javax.tools.ToolProvider;

/** The README's example is compiled and run as it stands there, and no test is missing in its table. */
public final class ReadmeTest {
    public static void main(String[] args) throws Exception {
        String readme = Files.readString(Path.of("README.md"));
        Check.equal("the example", printed(block(readme, "java")), block(readme, "text"));
        Check.equal("the tests told", told(readme).toString(), tests().toString());
        Check.end();
    }

    /** Answers the first block of a kind; empty if there is none. */
    private static String block(String readme, String kind) {
        String[] parts = readme.split("```" + kind + "\n", 2);
        return parts.length < 2 ? "" : parts[1].split("```", 2)[0];
    }

    private static String printed(String example) throws Exception {
        Path directory = Files.createTempDirectory("readme");
        Path file = directory.resolve("Try.java");
        Files.writeString(file, example);
        int compiled = ToolProvider.getSystemJavaCompiler().run(null, null, null, "-d", directory.toString(),
            "-cp", System.getProperty("java.class.path"), file.toString());
        Check.equal("javac of the example", compiled, 0);
        String text = compiled == 0 ? run(directory) : "";
        for (File left : directory.toFile().listFiles()) {
            left.delete();
        }
        directory.toFile().delete();
        return text;
    }

    private static String run(Path directory) throws Exception {
        ByteArrayOutputStream bytes = new ByteArrayOutputStream();
        PrintStream before = System.out;
        System.setOut(new PrintStream(bytes, true, StandardCharsets.US_ASCII));
        try (URLClassLoader loader = new URLClassLoader(new URL[] {directory.toUri().toURL()})) {
            loader.loadClass("Try").getMethod("main", String[].class).invoke(null, (Object) new String[0]);
        } finally {
            System.setOut(before);
        }
        return bytes.toString(StandardCharsets.US_ASCII).replace(System.lineSeparator(), "\n");
    }

    private static TreeSet<String> told(String readme) {
        TreeSet<String> names = new TreeSet<>();
        for (String line : readme.split("\n")) {
            if (line.startsWith("| `")) {
                names.add(line.substring(3, line.indexOf('`', 3)));
            }
        }
        return names;
    }

    private static TreeSet<String> tests() {
        TreeSet<String> names = new TreeSet<>();
        for (String name : new File("src/test/java").list()) {
            if (name.endsWith("Test.java")) {
                names.add(name.substring(0, name.length() - ".java".length()));
            }
        }
        return names;
    }
}
