import java.util.ArrayList;
import java.util.List;
import java.util.NoSuchElementException;
import java.util.Random;

/**
 * Random runs of all calls: ShardGuard must answer what PlainModel answers. No object is used for more than 512
 * calls: when one has had them, a new one gets all calls of the run so far and goes on in its place.
 */
public final class ModelTest {
    private static final int RUNS = 1000;
    private static final int MOST_CALLS = 512;
    /** A text takes up to 37 calls more, and the rest is for looks that need not be made again. */
    private static final int MOST_KEPT = 440;

    private interface Use {
        long answer(ShardGuard guard);
    }

    private final Random random;
    private final PlainModel model = new PlainModel();
    private final StringBuilder told = new StringBuilder();
    private final List<Use> kept = new ArrayList<>();
    private ShardGuard guard = new ShardGuard();
    private int calls = 0;

    private ModelTest(long seed) {
        random = new Random(seed);
    }

    /** The number of runs may be given as the only argument. */
    public static void main(String[] args) {
        int runs = args.length > 0 ? Integer.parseInt(args[0]) : RUNS;
        for (int run = 0; run < runs && Check.wrongOnes() == 0; run++) {
            ModelTest test = new ModelTest(run);
            test.run();
            if (Check.wrongOnes() > 0) {
                System.out.println("run " + run + ":\n" + test.told);
            }
        }
        Check.end();
    }

    private void run() {
        int most = 40 + random.nextInt(MOST_KEPT - 40);
        load(TextMaker.fleet(random));
        while (kept.size() < most && Check.wrongOnes() == 0) {
            if (random.nextInt(4) == 0) {
                ask();
            } else if (random.nextInt(20) == 0) {
                text();
            } else {
                change();
            }
            if (random.nextInt(25) == 0) {
                compareAll();
            }
        }
        compareAll();
    }

    /** Makes a call that belongs to the run and compares its answer. */
    private void same(String call, Use use, long due) {
        told.append(call).append(" = ").append(due).append('\n');
        look(call, use, due);
        kept.add(use);
    }

    /** Makes a call that changes nothing, so that a later object need not have it. */
    private void look(String call, Use use, long due) {
        if (calls >= MOST_CALLS) {
            guard = new ShardGuard();
            for (Use earlier : kept) {
                answer(earlier);
            }
            calls = kept.size();
        }
        calls++;
        Check.equal(call, answer(use), due);
    }

    private long answer(Use use) {
        try {
            return use.answer(guard);
        } catch (NoSuchElementException e) {
            return PlainModel.NO_SUCH;
        } catch (IllegalArgumentException e) {
            return PlainModel.ILLEGAL;
        }
    }

    /** Answers mostly a number below a bound, seldom one outside or at the edge. */
    private int number(int bound) {
        int kind = random.nextInt(40);
        if (kind == 0) {
            return -1 - random.nextInt(3);
        }
        if (kind == 1) {
            return bound + random.nextInt(3);
        }
        if (kind == 2) {
            return random.nextInt();
        }
        return bound <= 0 ? 0 : random.nextInt(bound);
    }

    private int tenant() {
        return number(model.size(2));
    }

    private int worker() {
        return number(model.size(0));
    }

    private void change() {
        int a;
        int b;
        switch (random.nextInt(16)) {
            case 0: case 1: case 2: case 3:
                a = tenant();
                b = number(4) == 0 ? number(22) : 1 + number(6);
                boolean poisoned = random.nextInt(3) == 0;
                same("submit(" + a + ", " + b + ", " + poisoned + ")", guard -> guard.submit(a, b, poisoned),
                    model.submit(a, b, poisoned));
                break;
            case 4: case 5: case 6:
                a = random.nextInt(12) == 0 ? number(102) : 1 + number(6);
                same("pass(" + a + ")", guard -> guard.pass(a), model.pass(a));
                break;
            case 7:
                a = worker();
                same("kill(" + a + ")", guard -> guard.kill(a), model.kill(a));
                break;
            case 8:
                a = tenant();
                b = random.nextInt(3) == 0 ? number(1 << model.size(0)) : model.bestShard(Math.max(0, a));
                same("move(" + a + ", " + b + ")", guard -> guard.move(a, b), model.move(a, b));
                break;
            case 9:
                a = random.nextInt(3) == 0 ? random.nextInt() : number(100);
                if (random.nextInt(3) == 0) {
                    same("draw(" + a + ")", guard -> guard.draw(a), model.draw(a));
                }
                break;
            case 10:
                a = tenant();
                same("release(" + a + ")", guard -> guard.release(a), model.release(a));
                break;
            case 11:
                a = number(5);
                b = number(random.nextInt(10) == 0 ? 1000 : 9);
                same("set(" + a + ", " + b + ")", guard -> guard.set(a, b), model.set(a, b));
                break;
            case 12:
                same("undo()", ShardGuard::undo, model.undo());
                break;
            case 13:
                if (random.nextInt(3) == 0) {
                    model.saveSnapshot();
                    same("saveSnapshot()", ModelTest::saved, 0);
                }
                break;
            case 14:
                if (random.nextInt(6) == 0) {
                    same("restoreSnapshot()", guard -> guard.restoreSnapshot() ? 1 : 0, model.restoreSnapshot());
                }
                break;
            default:
                a = worker();
                same("format(" + a + ")", guard -> guard.format(a), model.format(a));
                text(model.lastFormatted());
        }
    }

    private static long saved(ShardGuard guard) {
        guard.saveSnapshot();
        return 0;
    }

    private void text(String due) {
        for (int i = -1; i <= due.length(); i++) {
            int index = i;
            int sign = i >= 0 && i < due.length() ? due.charAt(i) : ShardGuard.NONE;
            look("formattedByte(" + i + ") of " + due, guard -> guard.formattedByte(index), sign);
        }
    }

    private void ask() {
        int a = tenant();
        switch (random.nextInt(12)) {
            case 0:
                int seed = random.nextInt(3) == 0 ? number(100) : random.nextInt();
                same("drawn(" + a + ", " + seed + ")", guard -> guard.drawn(a, seed), model.drawn(a, seed));
                break;
            case 1:
                if (random.nextInt(4) == 0) {
                    same("bestSeed()", ShardGuard::bestSeed, model.bestSeed());
                }
                break;
            case 2:
                same("bestShard(" + a + ")", guard -> guard.bestShard(a), model.bestShard(a));
                break;
            case 3:
                same("poisonKills(" + a + ")", guard -> guard.poisonKills(a), model.poisonKills(a));
                break;
            case 4:
                same("poisonHarm(" + a + ")", guard -> guard.poisonHarm(a), model.poisonHarm(a));
                break;
            case 5:
                int ticks = number(201);
                same("doneBehind(" + ticks + ")", guard -> guard.doneBehind(ticks), model.doneBehind(ticks));
                break;
            case 6:
                same("meanOverlap()", guard -> Double.doubleToRawLongBits(guard.meanOverlap()),
                    Double.doubleToRawLongBits(model.meanOverlap()));
                same("served()", guard -> Float.floatToRawIntBits(guard.served()),
                    Float.floatToRawIntBits(model.served()));
                break;
            case 7:
                int what = number(10);
                same("size(" + what + ")", guard -> guard.size(what), model.size(what));
                same("setting(" + what + ")", guard -> guard.setting(what), model.setting(what));
                same("request(" + a + ", " + what + ")", guard -> guard.request(a, what), model.request(a, what));
                break;
            default:
                query(TextMaker.query(random));
        }
    }

    private void text() {
        String text = TextMaker.fleet(random);
        if (random.nextInt(3) > 0) {
            load(TextMaker.spoiled(random, text));
        } else if (random.nextInt(3) == 0) {
            load(text);
        } else {
            int length = number(60);
            same("load(" + length + ")", guard -> guard.load(length), model.load(length));
        }
    }

    private void feed(String text) {
        for (int i = 0; i < text.length(); i += 20) {
            int[] five = new int[5];
            for (int j = 0; j < 20; j++) {
                int sign = i + j < text.length() ? text.charAt(i + j) : ' ';
                five[j / 4] = five[j / 4] << 8 | sign;
            }
            same("feed", guard -> guard.feed(five[0], five[1], five[2], five[3], five[4]), model.feed(five));
        }
    }

    private void load(String text) {
        told.append(text).append('\n');
        feed(text);
        same("load(" + text.length() + ")", guard -> guard.load(text.length()), model.load(text.length()));
        same("errorPosition()", ShardGuard::errorPosition, model.errorPosition());
    }

    private void query(String text) {
        told.append(text).append('\n');
        feed(text);
        same("query(" + text.length() + ")", guard -> guard.query(text.length()), model.query(text.length()));
        same("errorPosition()", ShardGuard::errorPosition, model.errorPosition());
    }

    private void compareAll() {
        for (int what = -1; what <= 10; what++) {
            int w = what;
            look("size", guard -> guard.size(w), model.size(w));
            look("setting", guard -> guard.setting(w), model.setting(w));
            look("parked", guard -> guard.parked(w), model.parked(w));
        }
        for (int i = 0; i < model.size(0); i++) {
            int n = i;
            for (int what = 0; what <= 6; what++) {
                int w = what;
                look("worker " + n + " " + w, guard -> guard.worker(n, w), model.worker(n, w));
                look("queued " + n + " " + w, guard -> guard.queued(n, w), model.queued(n, w));
            }
        }
        for (int i = 0; i < model.size(2); i++) {
            int n = i;
            for (int what = 0; what <= 12; what++) {
                int w = what;
                look("tenant " + n + " " + w, guard -> guard.tenant(n, w), model.tenant(n, w));
                look("killsOf " + n + " " + w, guard -> guard.killsOf(n, w), model.killsOf(n, w));
                look("overlap " + n + " " + w, guard -> guard.overlap(n, w), model.overlap(n, w));
            }
            look("covered " + n, guard -> guard.covered(n), model.covered(n));
        }
        for (int i = 0; i < model.size(3); i++) {
            int n = i;
            for (int what = 0; what <= 8; what++) {
                int w = what;
                look("request " + n + " " + w, guard -> guard.request(n, w), model.request(n, w));
            }
        }
        look("killingPairs", ShardGuard::killingPairs, model.killingPairs());
        look("greatestOverlap", ShardGuard::greatestOverlap, model.greatestOverlap());
        look("undoCount", ShardGuard::undoCount, model.undoCount());
    }
}
