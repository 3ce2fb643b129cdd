import java.io.File;
import java.io.OutputStream;
import java.io.PrintStream;
import java.lang.reflect.InvocationTargetException;
import java.net.URL;
import java.net.URLClassLoader;
import java.nio.file.Files;
import java.nio.file.Path;
import java.util.TreeSet;
import javax.tools.ToolProvider;

/**
 * What an object answers behind its 512th call is free, so no other test may ask it. The other tests are run with
 * a copy of the class that counts its calls and throws at the 513th.
 */
public final class CallLimitTest {
    private static final String COUNT = "if (++calls > 512) { throw new Error(\"a call behind the 512th\"); }";

    public static void main(String[] args) throws Exception {
        Path directory = Files.createTempDirectory("counted");
        Path file = directory.resolve("ShardGuard.java");
        Files.writeString(file, counted(Files.readString(Path.of("src/main/java/ShardGuard.java"))));
        int compiled = ToolProvider.getSystemJavaCompiler().run(null, null, null, "-d", directory.toString(),
            file.toString());
        Check.equal("javac of the copy that counts", compiled, 0);
        Check.equal("the copy counts", thrown("CallLimitTest$Counted", directory), "java.lang.Error");
        for (String test : tests()) {
            Check.equal("what " + test + " throws with the copy that counts", thrown(test, directory), "");
        }
        for (File left : directory.toFile().listFiles()) {
            left.delete();
        }
        directory.toFile().delete();
        Check.end();
    }

    /** Makes just one call too many. */
    public static final class Counted {
        public static void main(String[] args) {
            ShardGuard guard = new ShardGuard();
            for (int i = 0; i < 513; i++) {
                guard.undoCount();
            }
        }
    }

    /** Lets each public method of the class begin by counting. */
    private static String counted(String source) {
        String methods = "(\n    public (?:int|double|float|void|boolean) \\w+\\([^{]*\\{)";
        return source.replaceAll(methods, "$1" + COUNT).replaceFirst("(class ShardGuard \\{)", "$1 private int calls;");
    }

    /** Runs a test with the classes of a directory before its own; answers the name of what it throws. */
    private static String thrown(String test, Path directory) throws Exception {
        URL[] places = {directory.toUri().toURL(), new File(System.getProperty("java.class.path")).toURI().toURL()};
        PrintStream before = System.out;
        System.setOut(new PrintStream(OutputStream.nullOutputStream()));
        try (URLClassLoader loader = new URLClassLoader(places, ClassLoader.getPlatformClassLoader())) {
            loader.loadClass(test).getMethod("main", String[].class).invoke(null, (Object) arguments(test));
            return "";
        } catch (InvocationTargetException e) {
            return e.getCause().getClass().getName();
        } finally {
            System.setOut(before);
        }
    }

    /** Some of the random runs are enough here. */
    private static String[] arguments(String test) {
        return test.equals("ModelTest") ? new String[] {"100"} : new String[0];
    }

    private static TreeSet<String> tests() {
        TreeSet<String> names = new TreeSet<>();
        for (String name : new File("src/test/java").list()) {
            if (name.endsWith("Test.java") && !name.equals("CallLimitTest.java")) {
                names.add(name.substring(0, name.length() - ".java".length()));
            }
        }
        return names;
    }
}
