import java.util.ArrayList;
import java.util.Collections;
import java.util.List;
import java.util.Random;

/** Makes random texts for load and query, right ones and spoiled ones. */
final class TextMaker {
    private static final String[] SETTINGS = {"restart", "retries", "limit", "window", "quarantine"};
    private static final int[] USEFUL = {6, 6, 9, 30, 20};
    private static final String[] PARTS = {"workers", "size", "restart", "retries", "limit", "window", "quarantine",
        "tenant", "request", "poisoned", ";", "0", "1", "2", "5", "9", "12", "13", "20", "21", "1000", "-", "#", "x",
        "00", "99999999999", "\n", " ", "tenants", "\u00ff", "A", "\t"};
    private static final String[] PROPERTIES = {"request", "tenant", "cost", "rest", "poisoned", "state", "attempts",
        "worker", "place"};
    private static final String[] QUERY_PARTS = {"many", "first", "and", "or", "not", "(", ")", "<", "=", ">", "0", "7",
        "9999", "10000", "cost", "state", "place", "time", ";", "not not", "(("};

    private TextMaker() {
    }

    static String fleet(Random random) {
        int workers = 2 + random.nextInt(random.nextBoolean() ? 11 : 4);
        int size = 1 + random.nextInt(Math.min(4, workers));
        StringBuilder text = new StringBuilder("workers " + workers + " size " + size + ";");
        for (int i = random.nextInt(8); i > 0; i--) {
            int what = random.nextInt(5);
            text.append(SETTINGS[what]).append(' ').append(1 + random.nextInt(USEFUL[what] - 1)).append(';');
        }
        int tenants = random.nextInt(12) == 0 ? 0 : 1 + random.nextInt(12);
        for (int i = 0; i < tenants; i++) {
            text.append(random.nextBoolean() ? "tenant" : "\ntenant");
            List<Integer> all = new ArrayList<>();
            for (int worker = 0; worker < workers; worker++) {
                all.add(worker);
            }
            Collections.shuffle(all, random);
            for (int worker : all.subList(0, size)) {
                text.append(' ').append(worker);
            }
            text.append(';');
        }
        int requests = tenants == 0 ? 0 : random.nextInt(random.nextInt(4) == 0 ? 62 : 15);
        for (int i = 0; i < requests && text.length() < 670; i++) {
            text.append("request").append(random.nextInt(tenants)).append(' ').append(1 + random.nextInt(9));
            text.append(random.nextInt(4) == 0 ? " poisoned;" : ";");
        }
        return text.toString();
    }

    /** Puts in, takes out or repeats parts, or cuts the text. */
    static String spoiled(Random random, String text) {
        StringBuilder other = new StringBuilder(text);
        for (int i = 1 + random.nextInt(2); i > 0; i--) {
            int place = random.nextInt(other.length() + 1);
            int kind = random.nextInt(5);
            if (kind <= 1) {
                other.insert(place, PARTS[random.nextInt(PARTS.length)]);
            } else if (kind == 2) {
                other.setLength(place);
            } else if (kind == 3) {
                other.delete(place, Math.min(other.length(), place + 1 + random.nextInt(4)));
            } else {
                int end = Math.min(other.length(), place + random.nextInt(12));
                other.insert(end, other.substring(place, end));
            }
        }
        other.setLength(Math.min(680, other.length()));
        return other.toString();
    }

    static String query(Random random) {
        String text = (random.nextBoolean() ? "many " : "first ") + test(random, 0);
        if (random.nextInt(4) == 0) {
            StringBuilder other = new StringBuilder(text);
            int place = random.nextInt(other.length() + 1);
            if (random.nextBoolean()) {
                other.insert(place, QUERY_PARTS[random.nextInt(QUERY_PARTS.length)]);
            } else {
                other.delete(place, Math.min(other.length(), place + 1 + random.nextInt(5)));
            }
            text = other.toString();
        }
        return text.substring(0, Math.min(random.nextInt(40) == 0 ? 210 : 200, text.length()));
    }

    private static String test(Random random, int depth) {
        StringBuilder text = new StringBuilder(factor(random, depth));
        for (int i = random.nextInt(4); i > 1; i--) {
            text.append(random.nextBoolean() ? " and " : " or ").append(factor(random, depth));
        }
        return text.toString();
    }

    private static String factor(Random random, int depth) {
        int kind = random.nextInt(5);
        if (kind == 0 && depth < 8) {
            return "not " + factor(random, depth + 1);
        }
        if (kind <= 2 && depth < 8) {
            return "(" + test(random, depth + 1) + ")";
        }
        return value(random) + "<=>".charAt(random.nextInt(3)) + value(random);
    }

    private static String value(Random random) {
        if (random.nextInt(3) > 0) {
            return PROPERTIES[random.nextInt(PROPERTIES.length)];
        }
        return "" + (random.nextInt(50) == 0 ? 9998 + random.nextInt(4) : random.nextInt(8));
    }
}
