import java.util.NoSuchElementException;
import java.util.Random;

/** Random runs of all calls: ShardGuard must answer what PlainModel answers. */
public final class ModelTest {
    private static final int RUNS = 400;
    private static final int CALLS = 512;

    private final Random random;
    private final ShardGuard guard = new ShardGuard();
    private final PlainModel model = new PlainModel();
    private final StringBuilder told = new StringBuilder();
    private boolean quiet = false;

    private ModelTest(long seed) {
        random = new Random(seed);
    }

    /** The number of runs may be given as the only argument. */
    public static void main(String[] args) {
        int runs = args.length > 0 ? Integer.parseInt(args[0]) : RUNS;
        for (int run = 0; run < runs && Check.wrongOnes() == 0; run++) {
            ModelTest test = new ModelTest(run);
            test.run();
            if (Check.wrongOnes() > 0) {
                System.out.println("run " + run + ":\n" + test.told);
            }
        }
        Check.end();
    }

    private void run() {
        load(TextMaker.fleet(random));
        for (int call = 0; call < CALLS && Check.wrongOnes() == 0; call++) {
            if (random.nextInt(4) == 0) {
                ask();
            } else if (random.nextInt(20) == 0) {
                text();
            } else {
                change();
            }
            if (random.nextInt(6) == 0) {
                compareAll();
            }
        }
        compareAll();
    }

    private void same(String call, Check.Call real, int due) {
        if (!quiet) {
            told.append(call).append(" = ").append(due).append('\n');
        }
        long got;
        try {
            got = real.answer();
        } catch (NoSuchElementException e) {
            got = PlainModel.NO_SUCH;
        } catch (IllegalArgumentException e) {
            got = PlainModel.ILLEGAL;
        }
        Check.equal(call, got, due);
    }

    /** Answers mostly a number below a bound, seldom one outside or at the edge. */
    private int number(int bound) {
        int kind = random.nextInt(40);
        if (kind == 0) {
            return -1 - random.nextInt(3);
        }
        if (kind == 1) {
            return bound + random.nextInt(3);
        }
        if (kind == 2) {
            return random.nextInt();
        }
        return bound <= 0 ? 0 : random.nextInt(bound);
    }

    private int tenant() {
        return number(model.size(2));
    }

    private int worker() {
        return number(model.size(0));
    }

    private void change() {
        int a;
        int b;
        switch (random.nextInt(16)) {
            case 0: case 1: case 2: case 3:
                a = tenant();
                b = number(4) == 0 ? number(22) : 1 + number(6);
                boolean poisoned = random.nextInt(3) == 0;
                same("submit(" + a + ", " + b + ", " + poisoned + ")", () -> guard.submit(a, b, poisoned),
                    model.submit(a, b, poisoned));
                break;
            case 4: case 5: case 6:
                a = random.nextInt(12) == 0 ? number(102) : 1 + number(6);
                same("pass(" + a + ")", () -> guard.pass(a), model.pass(a));
                break;
            case 7:
                a = worker();
                same("kill(" + a + ")", () -> guard.kill(a), model.kill(a));
                break;
            case 8:
                a = tenant();
                b = random.nextInt(3) == 0 ? number(1 << model.size(0)) : model.bestShard(Math.max(0, a));
                same("move(" + a + ", " + b + ")", () -> guard.move(a, b), model.move(a, b));
                break;
            case 9:
                a = random.nextInt(3) == 0 ? random.nextInt() : number(100);
                if (random.nextInt(3) == 0) {
                    same("draw(" + a + ")", () -> guard.draw(a), model.draw(a));
                }
                break;
            case 10:
                a = tenant();
                same("release(" + a + ")", () -> guard.release(a), model.release(a));
                break;
            case 11:
                a = number(5);
                b = number(random.nextInt(10) == 0 ? 1000 : 9);
                same("set(" + a + ", " + b + ")", () -> guard.set(a, b), model.set(a, b));
                break;
            case 12:
                same("undo()", guard::undo, model.undo());
                break;
            case 13:
                if (random.nextInt(3) == 0) {
                    guard.saveSnapshot();
                    model.saveSnapshot();
                    told.append("saveSnapshot()\n");
                }
                break;
            case 14:
                if (random.nextInt(6) == 0) {
                    same("restoreSnapshot()", () -> guard.restoreSnapshot() ? 1 : 0, model.restoreSnapshot());
                }
                break;
            default:
                a = worker();
                same("format(" + a + ")", () -> guard.format(a), model.format(a));
                Check.equal("the text", Check.lastFormatted(guard), model.lastFormatted());
        }
    }

    private void ask() {
        int a = tenant();
        switch (random.nextInt(12)) {
            case 0:
                int seed = random.nextInt(3) == 0 ? number(100) : random.nextInt();
                same("drawn(" + a + ", " + seed + ")", () -> guard.drawn(a, seed), model.drawn(a, seed));
                break;
            case 1:
                if (random.nextInt(4) == 0) {
                    same("bestSeed()", guard::bestSeed, model.bestSeed());
                }
                break;
            case 2:
                same("bestShard(" + a + ")", () -> guard.bestShard(a), model.bestShard(a));
                break;
            case 3:
                same("poisonKills(" + a + ")", () -> guard.poisonKills(a), model.poisonKills(a));
                break;
            case 4:
                same("poisonHarm(" + a + ")", () -> guard.poisonHarm(a), model.poisonHarm(a));
                break;
            case 5:
                int ticks = number(201);
                same("doneBehind(" + ticks + ")", () -> guard.doneBehind(ticks), model.doneBehind(ticks));
                break;
            case 6:
                Check.equal("meanOverlap()", guard.meanOverlap(), model.meanOverlap());
                Check.equal("served()", guard.served(), model.served());
                break;
            case 7:
                int what = number(10);
                same("size(" + what + ")", () -> guard.size(what), model.size(what));
                same("setting(" + what + ")", () -> guard.setting(what), model.setting(what));
                same("request(" + a + ", " + what + ")", () -> guard.request(a, what), model.request(a, what));
                break;
            default:
                query(TextMaker.query(random));
        }
    }

    private void text() {
        String text = TextMaker.fleet(random);
        if (random.nextInt(3) > 0) {
            load(TextMaker.spoiled(random, text));
        } else if (random.nextInt(3) == 0) {
            load(text);
        } else {
            int length = number(60);
            same("load(" + length + ")", () -> guard.load(length), model.load(length));
        }
    }

    private void feed(String text) {
        for (int i = 0; i < text.length(); i += 20) {
            int[] five = new int[5];
            for (int j = 0; j < 20; j++) {
                int sign = i + j < text.length() ? text.charAt(i + j) : ' ';
                five[j / 4] = five[j / 4] << 8 | sign;
            }
            same("feed", () -> guard.feed(five[0], five[1], five[2], five[3], five[4]), model.feed(five));
        }
    }

    private void load(String text) {
        told.append(text).append('\n');
        feed(text);
        same("load(" + text.length() + ")", () -> guard.load(text.length()), model.load(text.length()));
        same("errorPosition()", guard::errorPosition, model.errorPosition());
    }

    private void query(String text) {
        told.append(text).append('\n');
        feed(text);
        same("query(" + text.length() + ")", () -> guard.query(text.length()), model.query(text.length()));
        same("errorPosition()", guard::errorPosition, model.errorPosition());
    }

    private void compareAll() {
        quiet = true;
        for (int what = -1; what <= 10; what++) {
            int w = what;
            same("size", () -> guard.size(w), model.size(w));
            same("setting", () -> guard.setting(w), model.setting(w));
            same("parked", () -> guard.parked(w), model.parked(w));
        }
        for (int i = 0; i < model.size(0); i++) {
            int n = i;
            for (int what = 0; what <= 6; what++) {
                int w = what;
                same("worker " + n + " " + w, () -> guard.worker(n, w), model.worker(n, w));
                same("queued " + n + " " + w, () -> guard.queued(n, w), model.queued(n, w));
            }
        }
        for (int i = 0; i < model.size(2); i++) {
            int n = i;
            for (int what = 0; what <= 12; what++) {
                int w = what;
                same("tenant " + n + " " + w, () -> guard.tenant(n, w), model.tenant(n, w));
                same("killsOf " + n + " " + w, () -> guard.killsOf(n, w), model.killsOf(n, w));
                same("overlap " + n + " " + w, () -> guard.overlap(n, w), model.overlap(n, w));
            }
            same("covered " + n, () -> guard.covered(n), model.covered(n));
        }
        for (int i = 0; i < model.size(3); i++) {
            int n = i;
            for (int what = 0; what <= 8; what++) {
                int w = what;
                same("request " + n + " " + w, () -> guard.request(n, w), model.request(n, w));
            }
        }
        same("killingPairs", guard::killingPairs, model.killingPairs());
        same("greatestOverlap", guard::greatestOverlap, model.greatestOverlap());
        same("undoCount", guard::undoCount, model.undoCount());
        quiet = false;
    }
}
