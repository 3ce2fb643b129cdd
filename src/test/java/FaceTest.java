import java.lang.reflect.Constructor;
import java.lang.reflect.Field;
import java.lang.reflect.Member;
import java.lang.reflect.Method;
import java.lang.reflect.Modifier;
import java.nio.file.Files;
import java.nio.file.Path;
import java.util.HashSet;
import java.util.Set;
import java.util.TreeSet;

/** The public face is just the document's, and the source keeps to what LANGUAGE.md leaves. */
public final class FaceTest {
    private static final String[] FACE = {
        "int feed(int a, int b, int c, int d, int e)",
        "int load(int length) throws IllegalArgumentException",
        "int errorPosition()",
        "int size(int what) throws NoSuchElementException",
        "int setting(int what) throws NoSuchElementException",
        "int worker(int worker, int what) throws NoSuchElementException",
        "int tenant(int tenant, int what) throws NoSuchElementException",
        "int request(int request, int what) throws NoSuchElementException",
        "int queued(int worker, int place) throws NoSuchElementException",
        "int parked(int place) throws NoSuchElementException",
        "int killsOf(int tenant, int worker) throws NoSuchElementException",
        "int killingPairs()",
        "int overlap(int tenant, int other) throws NoSuchElementException",
        "int covered(int tenant) throws NoSuchElementException",
        "int greatestOverlap()",
        "int bestShard(int tenant) throws NoSuchElementException",
        "int drawn(int tenant, int seed) throws NoSuchElementException, IllegalArgumentException",
        "int bestSeed()",
        "int poisonKills(int tenant) throws NoSuchElementException",
        "int poisonHarm(int tenant) throws NoSuchElementException",
        "int doneBehind(int ticks) throws IllegalArgumentException",
        "double meanOverlap()",
        "float served()",
        "int submit(int tenant, int cost, boolean poisoned) throws NoSuchElementException, IllegalArgumentException",
        "int pass(int ticks) throws IllegalArgumentException",
        "int kill(int worker) throws NoSuchElementException",
        "int move(int tenant, int shard) throws NoSuchElementException, IllegalArgumentException",
        "int draw(int seed) throws IllegalArgumentException",
        "int release(int tenant) throws NoSuchElementException",
        "int set(int what, int value) throws NoSuchElementException, IllegalArgumentException",
        "int format(int worker) throws NoSuchElementException",
        "int formattedByte(int index)",
        "int undoCount()",
        "int undo()",
        "void saveSnapshot()",
        "boolean restoreSnapshot()",
        "int query(int length) throws IllegalArgumentException",
    };

    /** What LANGUAGE.md rules out and a plain look at the source finds. */
    private static final String[] RULED_OUT = {
        "->", "::", "package ", "catch", "finally", "try {", "synchronized", "assert ", "Exact(", "String.format",
        "Arrays.", "Objects.", "Collections.", "HashMap", "System.out", "System.nano", "System.current", "Random",
        "Optional", "stream(", "var ", "protected ", "equals(", "hashCode(", "toString(", "goto ", "instanceof",
    };

    public static void main(String[] args) throws Exception {
        members();
        constants();
        source();
        Check.end();
    }

    private static void members() {
        Set<String> due = new TreeSet<>();
        Set<String> names = new HashSet<>();
        for (String line : FACE) {
            due.add(line.replaceAll("(int|boolean) [a-z]+(?=[,)])", "$1"));
            names.add(line.substring(line.indexOf(' ') + 1, line.indexOf('(')));
        }
        Set<String> found = new TreeSet<>();
        for (Method method : ShardGuard.class.getDeclaredMethods()) {
            if (!Modifier.isPrivate(method.getModifiers())) {
                found.add(told(method));
            }
        }
        Check.equal("the public methods", found.toString(), due.toString());
        int modifiers = ShardGuard.class.getModifiers();
        Check.equal("public final class", Modifier.toString(modifiers), "public final");
        Constructor<?>[] made = ShardGuard.class.getDeclaredConstructors();
        Check.equal("constructors", made.length, 1);
        Check.equal("the constructor is public", made[0].getModifiers(), Modifier.PUBLIC);
        for (Class<?> inside : ShardGuard.class.getDeclaredClasses()) {
            Check.equal(inside + " is static", Modifier.isStatic(inside.getModifiers()) ? 1 : 0, 1);
            for (Method method : inside.getDeclaredMethods()) {
                Check.equal(method + " bears a public name", names.contains(method.getName()) ? 1 : 0, 0);
            }
            staticFieldsAreFinal(inside);
        }
        staticFieldsAreFinal(ShardGuard.class);
    }

    private static void staticFieldsAreFinal(Class<?> owner) {
        for (Field field : owner.getDeclaredFields()) {
            boolean free = isStatic(field) && !Modifier.isFinal(field.getModifiers());
            Check.equal(field + " is static and not final", free ? 1 : 0, 0);
        }
    }

    private static boolean isStatic(Member member) {
        return Modifier.isStatic(member.getModifiers());
    }

    private static String told(Method method) {
        StringBuilder text = new StringBuilder();
        text.append(method.getReturnType().getSimpleName()).append(' ').append(method.getName()).append('(');
        String comma = "";
        for (Class<?> type : method.getParameterTypes()) {
            text.append(comma).append(type.getSimpleName());
            comma = ", ";
        }
        text.append(')');
        String between = " throws ";
        for (Class<?> type : method.getExceptionTypes()) {
            text.append(between).append(type.getSimpleName());
            between = ", ";
        }
        return text.toString();
    }

    private static void constants() {
        Check.equal("NONE", ShardGuard.NONE, -1);
        Check.equal("HIDDEN", ShardGuard.HIDDEN, -1000000000);
        Set<String> open = new TreeSet<>();
        for (Field field : ShardGuard.class.getDeclaredFields()) {
            if (!Modifier.isPrivate(field.getModifiers())) {
                open.add(Modifier.toString(field.getModifiers()) + " " + field.getType() + " " + field.getName());
            }
        }
        Check.equal("the open fields", open.toString(),
            "[public static final int HIDDEN, public static final int NONE]");
    }

    private static void source() throws Exception {
        String source = Files.readString(Path.of("src/main/java/ShardGuard.java"));
        String code = source.replaceAll("(?s)/\\*.*?\\*/", "").replaceAll("//[^\n]*", "");
        for (String part : RULED_OUT) {
            Check.equal("'" + part + "' in the source", code.indexOf(part), -1);
        }
        Check.equal("imports", code.split("import ").length - 1, 1);
        for (int i = 0; i < source.length(); i++) {
            if (source.charAt(i) > 126) {
                Check.equal("the sign at " + i, source.charAt(i), ' ');
            }
        }
    }
}
