/** Promises 1 to 4: a new object, feed, load and errorPosition. */
public final class TextTest {
    public static void main(String[] args) {
        newObject();
        feed();
        loadArguments();
        loadReplacesEverything();
        loadForgetsWhatWasTried();
        grammar();
        settings();
        misplacedTokens();
        endsTooEarly();
        outOfRange();
        tooMany();
        sameWorker();
        smallestCode();
        errorPosition();
        Check.end();
    }

    private static void newObject() {
        ShardGuard fresh = new ShardGuard();
        ShardGuard told = Check.loaded("workers 2 size 1;");
        Check.equal("a new object", Check.everything(fresh), Check.everything(told));
        int[] sizes = {2, 1, 0, 0, 0, 2, 0, 0, 0, 0};
        for (int what = 0; what < sizes.length; what++) {
            Check.equal("size(" + what + ") of a new object", fresh.size(what), sizes[what]);
        }
        Check.equal("errorPosition of a new object", fresh.errorPosition(), ShardGuard.NONE);
        Check.equal("formattedByte of a new object", fresh.formattedByte(0), ShardGuard.NONE);
        Check.equal("undo of a new object", fresh.undo(), ShardGuard.NONE);
        Check.equal("restoreSnapshot of a new object", fresh.restoreSnapshot() ? 1 : 0, 0);
        Check.equal("load(0) of a new object", fresh.load(0), -11);
    }

    private static void feed() {
        ShardGuard guard = new ShardGuard();
        for (int i = 1; i <= 35; i++) {
            Check.equal("feed " + i, guard.feed(0x20202020, 0x20202020, 0x20202020, 0x20202020, 0x20202020), 20 * i);
        }
        Check.equal("feed 36", guard.feed(0, 0, 0, 0, 0), ShardGuard.NONE);
        Check.equal("feed 37", guard.feed(0, 0, 0, 0, 0), ShardGuard.NONE);
        Check.illegal("load(701)", () -> guard.load(701));
        Check.equal("a load of 700 blanks", guard.load(700), -11);
        Check.equal("its errorPosition", guard.errorPosition(), 700);
        Check.equal("feed behind load", guard.feed(0, 0, 0, 0, 0), 20);

        // The order of the bytes: "workers 2 size 1;   " by hand.
        ShardGuard other = new ShardGuard();
        other.feed('w' << 24 | 'o' << 16 | 'r' << 8 | 'k', 'e' << 24 | 'r' << 16 | 's' << 8 | ' ',
            '3' << 24 | ' ' << 16 | 's' << 8 | 'i', 'z' << 24 | 'e' << 16 | ' ' << 8 | '2', ';' << 24 | 0x202020);
        Check.equal("load of bytes by hand", other.load(20), 0);
        Check.equal("its workers", other.size(0), 3);
        // Bytes from 128 on are tokens by themselves, not negative numbers of some other meaning.
        other.feed(0xffffffff, 0, 0, 0, 0);
        Check.equal("load of byte 255", other.load(20), -11);
        Check.equal("its errorPosition", other.errorPosition(), 0);
    }

    private static void loadArguments() {
        ShardGuard guard = new ShardGuard();
        Check.illegal("load(-1)", () -> guard.load(-1));
        Check.illegal("load(least int)", () -> guard.load(Integer.MIN_VALUE));
        Check.illegal("load(1) of nothing", () -> guard.load(1));
        Check.feed(guard, "workers 4 size 2;");
        Check.illegal("load(21)", () -> guard.load(21));
        Check.illegal("load(greatest int)", () -> guard.load(Integer.MAX_VALUE));
        Check.equal("errorPosition behind exceptions", guard.errorPosition(), ShardGuard.NONE);
        Check.equal("load behind exceptions", guard.load(17), 0);
        Check.equal("the workers", guard.size(0), 4);
        Check.illegal("the buffer is empty", () -> guard.load(1));
        // Only the first bytes count; what is behind them is thrown away with the rest of the buffer.
        Check.feed(guard, "workers 5 size 2;#");
        Check.equal("load of a part", guard.load(17), 0);
        Check.equal("the workers", guard.size(0), 5);
        Check.illegal("the buffer is empty", () -> guard.load(1));
        // A number goes as far as the length lets it.
        Check.feed(guard, "workers 12 size 1; restart 3;");
        Check.equal("load that cuts a number", guard.load(9), -12);
        Check.equal("its errorPosition", guard.errorPosition(), 8);
    }

    private static void loadReplacesEverything() {
        ShardGuard guard = Check.loaded("workers 3 size 1; limit 1; retries 0; tenant 1; request 0 1 poisoned;");
        guard.pass(7);
        guard.kill(0);
        guard.set(3, 4);
        guard.saveSnapshot();
        Check.equal("load", Check.load(guard, "workers 3 size 1; tenant 1;"), 1);
        String fresh = Check.everything(Check.loaded("workers 3 size 1; tenant 1;"));
        Check.equal("all behind load", Check.everything(guard), fresh);
        Check.equal("undoCount behind load", guard.undoCount(), 0);
        Check.equal("undo behind load", guard.undo(), ShardGuard.NONE);
        Check.equal("restoreSnapshot behind load", guard.restoreSnapshot() ? 1 : 0, 0);
        Check.equal("killsOf behind load", guard.killsOf(0, 1), 0);
        guard.submit(0, 1, true);
        guard.pass(1);
        Check.equal("kills count anew", guard.tenant(0, 7), 1);
    }

    /** Looks ahead before load must leave nothing in what load makes: no kills, attempts, times or quarantines. */
    private static void loadForgetsWhatWasTried() {
        String text = "workers 2 size 1; limit 2; retries 1; restart 1; window 99; tenant 0; tenant 1;"
            + "request 0 1 poisoned; request 1 2 poisoned; request 0 3;";
        String fresh = Check.everything(Check.loaded(text));
        ShardGuard later = Check.loaded(text);
        later.pass(40);
        String due = Check.everything(later);
        for (int look = 0; look < 4; look++) {
            ShardGuard guard = Check.loaded(text);
            guard.pass(30);
            if (look == 1) {
                guard.poisonKills(0);
            } else if (look == 2) {
                guard.poisonHarm(1);
            } else if (look == 3) {
                guard.doneBehind(200);
            }
            Check.load(guard, text);
            Check.equal("all behind load", Check.everything(guard), fresh);
            Check.equal("pairs behind load", guard.killingPairs(), 0);
            guard.pass(40);
            Check.equal("all some ticks behind load", Check.everything(guard), due);
        }
    }

    private static void grammar() {
        ShardGuard guard = Check.loaded("workers 12 size 4;tenant 0 1 2 3;tenant 11 10 9 8;request 1 20 poisoned;"
            + "request 0 1;");
        Check.equal("shard 0", guard.tenant(0, 0), 15);
        Check.equal("shard 1", guard.tenant(1, 0), 0xf00);
        Check.equal("request 0 tenant", guard.request(0, 0), 1);
        Check.equal("request 0 cost", guard.request(0, 1), 20);
        Check.equal("request 0 rest", guard.request(0, 2), 20);
        Check.equal("request 0 poisoned", guard.request(0, 3), 1);
        Check.equal("request 0 worker", guard.request(0, 6), 8);
        Check.equal("request 1 poisoned", guard.request(1, 3), 0);
        Check.equal("request 1 cost", guard.request(1, 1), 1);

        // Blanks are needed nowhere but between two words or two numbers, and may be anywhere else.
        Check.equal("no blanks", Check.load(guard, "workers2size1;restart9;tenant0;request0 1poisoned;"), 1);
        Check.equal("its restart", guard.setting(0), 9);
        Check.equal("its request", guard.request(0, 3), 1);
        Check.equal("many blanks", Check.load(guard, "\n\n workers\n2 size\n 1 ;\n tenant  0 ;\n\n"), 1);
        Check.equal("leading zeros", Check.load(guard, "workers 00000000000000000002 size 01;tenant 000;"), 1);
        Check.equal("no tenants", Check.load(guard, "workers 2 size 2;"), 0);
        Check.equal("routing in order", Check.load(guard, "workers 2 size 2;tenant 1 0;request 0 5;request 0 4;"
            + "request 0 1;request 0 1;request 0 7;"), 1);
        Check.equal("queue 0", Check.formatted(guard, 0), "w0 up 0:5 3:1");
        Check.equal("queue 1", Check.formatted(guard, 1), "w1 up 1:4 2:1 4:7");
    }

    private static void settings() {
        ShardGuard guard = Check.loaded("workers 2 size 1;");
        int[] usual = {5, 2, 3, 20, 50};
        for (int what = 0; what < 5; what++) {
            Check.equal("usual setting " + what, guard.setting(what), usual[what]);
        }
        String[] names = {"restart", "retries", "limit", "window", "quarantine"};
        int[] least = {1, 0, 1, 1, 1};
        int[] greatest = {50, 5, 9, 99, 999};
        for (int what = 0; what < 5; what++) {
            String head = "workers 2 size 1;" + names[what] + " ";
            Check.equal("load", Check.load(guard, head + least[what] + ";"), 0);
            Check.equal("least " + names[what], guard.setting(what), least[what]);
            Check.equal("load", Check.load(guard, head + greatest[what] + ";"), 0);
            Check.equal("greatest " + names[what], guard.setting(what), greatest[what]);
            Check.loadError(head + (greatest[what] + 1) + ";", 2, head.length());
            if (least[what] > 0) {
                Check.loadError(head + (least[what] - 1) + ";", 2, head.length());
            }
            Check.loadError(head + "x;", 1, head.length());
        }
        Check.equal("any order", Check.load(guard,
            "workers 2 size 1; window 3; restart 7; window 4; limit 8; window 5; restart 6; tenant 0;"), 1);
        Check.equal("the last window", guard.setting(3), 5);
        Check.equal("the last restart", guard.setting(0), 6);
        Check.equal("the limit", guard.setting(2), 8);
        Check.equal("the usual retries", guard.setting(1), 2);
    }

    private static void misplacedTokens() {
        Check.loadError("worker 2 size 1;", 1, 0);
        Check.loadError("workersx 2 size 1;", 1, 0);
        Check.loadError("Workers 2 size 1;", 1, 0);
        Check.loadError("2 size 1;", 1, 0);
        Check.loadError("workers size 2;", 1, 8);
        Check.loadError("workers 2 3;", 1, 10);
        Check.loadError("workers 2 size;", 1, 14);
        Check.loadError("workers 2 size 1 tenant", 1, 17);
        Check.loadError("workers 2 size 1;;", 1, 17);
        Check.loadError("workers 2\tsize 1;", 1, 9);
        Check.loadError("workers -2 size 1;", 1, 8);
        Check.loadError("workers 2 size 1; restart; 5;", 1, 25);
        Check.loadError("workers 2 size 1; restart 5 5;", 1, 28);
        Check.loadError("workers 2 size 1; speed 5;", 1, 18);
        Check.loadError("workers 2 size 1; tenant 0; restart 5;", 1, 28);
        Check.loadError("workers 2 size 1; tenant 0; request 0 1; tenant 1;", 1, 41);
        Check.loadError("workers 2 size 1; tenant 0; request 0 1; limit 1;", 1, 41);
        Check.loadError("workers 2 size 1; tenant 0; request;", 1, 35);
        Check.loadError("workers 2 size 1; tenant 0; request 0;", 1, 37);
        Check.loadError("workers 2 size 1; tenant 0; request 0 1 2;", 1, 40);
        Check.loadError("workers 2 size 1; tenant 0; request 0 1 poison;", 1, 40);
        Check.loadError("workers 2 size 1; tenant 0; request 0 1 poisoned poisoned;", 1, 49);
        Check.loadError("workers 2 size 1; workers 2 size 1;", 1, 18);
        Check.loadError("workers 2 size 1; 5", 1, 18);
        // Too few and too many workers.
        Check.loadError("workers 3 size 2; tenant 0;", 1, 26);
        Check.loadError("workers 3 size 2; tenant;", 1, 24);
        Check.loadError("workers 3 size 2; tenant 0 1 2;", 1, 29);
        Check.loadError("workers 3 size 2; tenant 0 x;", 1, 27);
    }

    private static void endsTooEarly() {
        String text = "workers 3 size 2; restart 5; tenant 0 1; request 0 1 poisoned;";
        String ends = ";";
        for (int length = 0; length < text.length(); length++) {
            String part = text.substring(0, length);
            boolean isWhole = part.trim().endsWith(ends);
            // A word that is cut is another word and an error at its own place.
            boolean cutsWord = length > 0 && isLetter(text.charAt(length - 1)) && isLetter(text.charAt(length));
            if (!isWhole && !cutsWord) {
                Check.loadError(part, 1, length);
                Check.loadError(part + " \n ", 1, length + 3);
            } else if (isWhole) {
                Check.equal("load of " + part, Check.load(new ShardGuard(), part) >= 0 ? 1 : 0, 1);
            }
        }
        Check.loadError("", 1, 0);
    }

    private static boolean isLetter(char sign) {
        return sign >= 'a' && sign <= 'z';
    }

    private static void outOfRange() {
        Check.loadError("workers 1 size 1;", 2, 8);
        Check.loadError("workers 13 size 1;", 2, 8);
        Check.loadError("workers 0 size 1;", 2, 8);
        Check.loadError("workers 4294967298 size 1;", 2, 8);
        Check.loadError("workers 18446744073709551618 size 1;", 2, 8);
        Check.loadError("workers 12 size 0;", 2, 16);
        Check.loadError("workers 12 size 5;", 2, 16);
        Check.loadError("workers 2 size 3;", 2, 15);
        Check.loadError("workers 3 size 4;", 2, 15);
        Check.loadError("workers 3 size 2; tenant 0 3;", 2, 27);
        Check.loadError("workers 3 size 2; tenant 99999999999 1;", 2, 25);
        Check.loadError("workers 2 size 1; request 0 1;", 2, 26);
        Check.loadError("workers 2 size 1; tenant 0; request 1 1;", 2, 36);
        Check.loadError("workers 2 size 1; tenant 0; request 0 0;", 2, 38);
        Check.loadError("workers 2 size 1; tenant 0; request 0 21;", 2, 38);
        Check.equal("size 4 of 4", Check.load(new ShardGuard(), "workers 4 size 4; tenant 3 2 1 0;"), 1);
        Check.equal("size 2 of 2", Check.load(new ShardGuard(), "workers 2 size 2; tenant 0 1;"), 1);
    }

    private static void tooMany() {
        StringBuilder twelve = new StringBuilder("workers 2 size 1;");
        for (int i = 0; i < 12; i++) {
            twelve.append("tenant ").append(i % 2).append(';');
        }
        Check.equal("12 tenants", Check.load(new ShardGuard(), twelve.toString()), 12);
        Check.loadError(twelve + "tenant 0;", 3, twelve.length());
        Check.loadError(twelve + "tenant 9;", 3, twelve.length());
        Check.loadError(twelve + "tenant", 3, twelve.length());
        Check.loadError(twelve + "request 0 1; tenant 0;", 1, twelve.length() + 13);

        StringBuilder sixty = new StringBuilder("workers2size1;tenant0;");
        for (int i = 0; i < 60; i++) {
            sixty.append("request0 1;");
        }
        ShardGuard guard = new ShardGuard();
        Check.equal("60 requests", Check.load(guard, sixty.toString()), 1);
        Check.equal("its requests", guard.size(3), 60);
        Check.equal("its load", guard.worker(0, 3), 60);
        Check.loadError(sixty + "request0 1;", 3, sixty.length());
        Check.loadError(sixty + "request", 3, sixty.length());
    }

    private static void sameWorker() {
        Check.loadError("workers 3 size 2; tenant 0 0;", 4, 27);
        Check.loadError("workers 4 size 3; tenant 3 1 3;", 4, 29);
        Check.loadError("workers 4 size 3; tenant 3 1 003", 4, 29);
        Check.loadError("workers 12 size 4; tenant 11 10 9 10;", 4, 34);
        Check.equal("another tenant's worker", Check.load(new ShardGuard(),
            "workers 3 size 2; tenant 0 1; tenant 1 0;"), 2);
    }

    private static void smallestCode() {
        // Behind enough workers a number is misplaced, were it one that the tenant has or out of range.
        Check.loadError("workers 3 size 2; tenant 0 1 0;", 1, 29);
        Check.loadError("workers 3 size 2; tenant 0 1 9;", 1, 29);
    }

    private static void errorPosition() {
        ShardGuard guard = new ShardGuard();
        Check.load(guard, "workers 2 size 1; x");
        Check.equal("behind an error", guard.errorPosition(), 18);
        Check.illegal("load(5)", () -> guard.load(5));
        Check.illegal("query(-1)", () -> guard.query(-1));
        Check.equal("behind an exception", guard.errorPosition(), 18);
        guard.feed(0, 0, 0, 0, 0);
        guard.pass(1);
        Check.equal("behind other calls", guard.errorPosition(), 18);
        guard.undo();
        Check.equal("behind undo", guard.errorPosition(), 18);
        guard.load(0);
        Check.load(guard, "workers 2 size 1;");
        Check.equal("behind a good text", guard.errorPosition(), ShardGuard.NONE);
        Check.query(guard, "many tenant = = 1");
        Check.equal("behind a query's error", guard.errorPosition(), 14);
        Check.query(guard, "many tenant = 1");
        Check.equal("behind a good query", guard.errorPosition(), ShardGuard.NONE);
    }
}
