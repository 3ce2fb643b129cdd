import java.io.IOException;
import java.nio.file.Files;
import java.nio.file.Path;

/** What the tests share: comparing answers, feeding texts and telling everything that can be seen. */
final class Check {
    private static final String DOCUMENT = document();
    private static int compared = 0;
    private static int wrong = 0;
    private static String said = "";

    interface Call {
        long answer();
    }

    private Check() {
    }

    static void equal(String call, long got, long due) {
        compared++;
        if (got != due) {
            tellWrong(call + " answered " + got + ", due is " + due);
        }
    }

    static void equal(String call, String got, String due) {
        compared++;
        if (!got.equals(due)) {
            tellWrong(call + " answered " + got + ", due is " + due);
        }
    }

    /** Compares the bits, so that no rounding is forgiven. */
    static void equal(String call, double got, double due) {
        compared++;
        if (Double.doubleToRawLongBits(got) != Double.doubleToRawLongBits(due)) {
            tellWrong(call + " answered " + got + ", due is " + due);
        }
    }

    static void noSuch(String name, Call call) {
        equal(name, thrown(call), "java.util.NoSuchElementException");
    }

    static void illegal(String name, Call call) {
        equal(name, thrown(call), "java.lang.IllegalArgumentException");
    }

    private static String thrown(Call call) {
        try {
            return "" + call.answer();
        } catch (RuntimeException e) {
            return e.getClass().getName();
        }
    }

    /**
     * Names the sentence of the document that the next comparisons stand for, which is told with those that are
     * wrong. It must stand in the document in just these words, so that no test outlives its sentence.
     */
    static void says(String sentence) {
        said = sentence;
        if (!DOCUMENT.isEmpty()) {
            equal("a search in the document", DOCUMENT.contains(sentence) ? "found" : "not found", "found");
        }
    }

    /** The document in one line; empty where it cannot be read. */
    private static String document() {
        try {
            return Files.readString(Path.of("../shared/DOC.md")).replaceAll("\\s+", " ");
        } catch (IOException e) {
            return "";
        }
    }

    private static void tellWrong(String text) {
        wrong++;
        if (wrong <= 50) {
            System.out.println(said.isEmpty() ? text : text + " (the document: " + said + ")");
        }
    }

    static int wrongOnes() {
        return wrong;
    }

    static void end() {
        System.out.println(compared + " answers compared, " + wrong + " wrong");
        if (wrong > 0) {
            System.exit(1);
        }
    }

    /** Feeds a text, filled up with spaces; answers what the last feed answered. */
    static int feed(ShardGuard guard, String text) {
        int filled = 0;
        for (int i = 0; i < text.length(); i += 20) {
            int[] five = new int[5];
            for (int j = 0; j < 20; j++) {
                int sign = i + j < text.length() ? text.charAt(i + j) : ' ';
                five[j / 4] = five[j / 4] << 8 | sign;
            }
            filled = guard.feed(five[0], five[1], five[2], five[3], five[4]);
        }
        return filled;
    }

    static int load(ShardGuard guard, String text) {
        feed(guard, text);
        return guard.load(text.length());
    }

    static int query(ShardGuard guard, String text) {
        feed(guard, text);
        return guard.query(text.length());
    }

    static ShardGuard loaded(String text) {
        ShardGuard guard = new ShardGuard();
        int answer = load(guard, text);
        if (answer < 0) {
            tellWrong("a test's text has error " + answer + " at " + guard.errorPosition() + ": " + text);
        }
        return guard;
    }

    /** A fleet whose tenants have the first workers, all the same. */
    static ShardGuard fleet(int workers, int size, int tenants) {
        StringBuilder text = new StringBuilder("workers " + workers + " size " + size + ";");
        for (int tenant = 0; tenant < tenants; tenant++) {
            text.append("tenant");
            for (int worker = 0; worker < size; worker++) {
                text.append(' ').append(worker);
            }
            text.append(';');
        }
        return loaded(text.toString());
    }

    /** Lengthens a text to a length by blanks. */
    static String filled(String text, int length) {
        return text + " ".repeat(length - text.length());
    }

    static String formatted(ShardGuard guard, int worker) {
        guard.format(worker);
        return lastFormatted(guard);
    }

    static String lastFormatted(ShardGuard guard) {
        StringBuilder text = new StringBuilder();
        for (int sign = guard.formattedByte(0); sign != ShardGuard.NONE; sign = guard.formattedByte(text.length())) {
            text.append((char) sign);
        }
        return text.toString();
    }

    /** Checks that a text has an error of a code at a position and that nothing else changes. */
    static void loadError(String text, int code, int position) {
        ShardGuard guard = loaded("workers 3 size 1; tenant 1; request 0 4;");
        guard.pass(1);
        guard.saveSnapshot();
        String before = everything(guard);
        equal("load of " + text, load(guard, text), -10 - code);
        equal("errorPosition behind " + text, guard.errorPosition(), position);
        equal("all behind " + text, everything(guard), before);
        illegal("the buffer behind " + text, () -> guard.load(1));
        equal("undo behind " + text, guard.undo(), 0);
        equal("snapshot behind " + text, guard.restoreSnapshot() ? 1 : 0, 1);
        equal("all restored behind " + text, everything(guard).replace("undo 0", "undo 1"), before);
    }

    /** Tells all that undoing restores, and how much can be undone. */
    static String everything(ShardGuard guard) {
        return everything(guard, 0, 1);
    }

    /** Tells of the requests only the first one named and each some steps behind it, as 60 take too many calls. */
    static String everything(ShardGuard guard, int first, int step) {
        StringBuilder all = new StringBuilder();
        row(all, "size", 10, guard::size);
        row(all, "setting", 5, guard::setting);
        for (int worker = 0; worker < guard.size(0); worker++) {
            int w = worker;
            row(all, "worker " + w, 6, what -> guard.worker(w, what));
            row(all, "queue " + w, guard.worker(w, 2), place -> guard.queued(w, place));
        }
        for (int tenant = 0; tenant < guard.size(2); tenant++) {
            int t = tenant;
            row(all, "tenant " + t, 9, what -> guard.tenant(t, what));
            row(all, "kills of " + t, guard.size(0), worker -> guard.killsOf(t, worker));
        }
        for (int request = first; request < guard.size(3); request += step) {
            int r = request;
            row(all, "request " + r, 8, what -> guard.request(r, what));
        }
        row(all, "parked", guard.size(6), guard::parked);
        all.append("undo ").append(guard.undoCount());
        return all.toString();
    }

    private static void row(StringBuilder all, String name, int count, java.util.function.IntUnaryOperator cell) {
        all.append(name).append(':');
        for (int i = 0; i < count; i++) {
            all.append(' ').append(cell.applyAsInt(i));
        }
        all.append('\n');
    }
}
