/** The boundary cases that the document names in "Input text" and in promises 1 to 4. Queries: EdgeQueryTest. */
public final class EdgeTextTest {
    private static final String HEAD = "workers 3 size 2;";

    public static void main(String[] args) {
        newObject();
        feedFull();
        feedOrder();
        loadLength();
        loadReplaces();
        loadReplacesMore();
        loadDiscards();
        loadAfterError();
        loadEmpties();
        errorPosition();
        errorPositionThatStays();
        words();
        numbers();
        leadingZeros();
        otherBytes();
        blanks();
        withoutSettings();
        lastOfAKind();
        workerNumbers();
        earlierTenants();
        differentWorkers();
        routedInOrder();
        firstError();
        smallestCode();
        misplaced();
        tooFewWorkers();
        enoughWorkers();
        endsTooEarly();
        outOfRange();
        tooManyTenants();
        tooManyRequests();
        workerTwice();
        Check.end();
    }

    private static void newObject() {
        Check.says("Creates workers without tenants, as by the text \"workers 2 size 1;\".");
        ShardGuard fresh = new ShardGuard();
        ShardGuard told = Check.loaded("workers 2 size 1;");
        Check.equal("all", Check.everything(fresh), Check.everything(told));
        Check.equal("workers", fresh.size(0) * 10 + fresh.size(1), 21);
        int[] usual = {5, 2, 3, 20, 50};
        for (int what = 0; what < usual.length; what++) {
            Check.equal("setting(" + what + ")", fresh.setting(what), usual[what]);
        }
        Check.noSuch("tenant(0, 0)", () -> fresh.tenant(0, 0));
        Check.noSuch("submit(0, 1, false)", () -> fresh.submit(0, 1, false));
        Check.noSuch("worker(2, 0)", () -> fresh.worker(2, 0));
        Check.equal("errorPosition", fresh.errorPosition(), ShardGuard.NONE);
        Check.equal("formattedByte(0)", fresh.formattedByte(0), ShardGuard.NONE);
        Check.equal("undoCount", fresh.undoCount(), 0);
        Check.equal("undo", fresh.undo(), ShardGuard.NONE);
        Check.equal("restoreSnapshot", fresh.restoreSnapshot() ? 1 : 0, 0);
        Check.equal("query", Check.query(fresh, "many 0=0"), 0);
        Check.equal("the buffer is empty", new ShardGuard().feed(0, 0, 0, 0, 0), 20);
    }

    private static ShardGuard withBuffer(String text) {
        ShardGuard guard = new ShardGuard();
        Check.feed(guard, text);
        return guard;
    }

    private static void feedFull() {
        Check.says("Returns the number of bytes in the buffer; NONE if it would exceed 700, and then nothing is appended.");
        ShardGuard guard = new ShardGuard();
        for (int bytes = 20; bytes <= 700; bytes += 20) {
            Check.equal("feed", guard.feed(-1, -1, -1, -1, -1), bytes);
        }
        Check.equal("feed to 720", guard.feed(0, 0, 0, 0, 0), ShardGuard.NONE);
        Check.illegal("load(701)", () -> guard.load(701));
        String text = Check.filled("workers 5 size 2;", 699) + "#";
        Refused refused = new Refused(() -> withBuffer(text));
        refused.answers("feed of spaces", full -> full.feed(0x20202020, 0x20202020, 0x20202020, 0x20202020, 0x20202020), -1);
        refused.answers("feed of zeros", full -> full.feed(0, 0, 0, 0, 0), -1);
        // The 700th byte is the last one fed before, not one of those that did not fit.
        ShardGuard full = withBuffer(text);
        full.feed(0x20202020, 0x20202020, 0x20202020, 0x20202020, 0x20202020);
        Check.equal("load(700)", full.load(700), -11);
        Check.equal("the error of the last byte", full.errorPosition(), 699);
        Check.equal("feed behind load", full.feed(0, 0, 0, 0, 0), 20);
        ShardGuard almost = withBuffer(Check.filled("", 680));
        Check.equal("feed at 680", almost.feed(0, 0, 0, 0, 0), 700);
        Check.equal("feed at 700", almost.feed(0, 0, 0, 0, 0), ShardGuard.NONE);
    }

    private static void feedOrder() {
        Check.says("the four bytes of each parameter, the most significant byte first");
        // "work" "ers2" "size" "1;\n\n" and four spaces.
        ShardGuard guard = new ShardGuard();
        guard.feed(0x776f726b, 0x65727332, 0x73697a65, 0x313b0a0a, 0x20202020);
        Check.equal("load", guard.load(20), 0);
        // A byte that is an error alone stands where it was fed.
        for (int place = 0; place < 20; place++) {
            int[] five = {0x20202020, 0x20202020, 0x20202020, 0x20202020, 0x20202020};
            five[place / 4] &= ~(255 << 24 - place % 4 * 8);
            five[place / 4] |= 0xff << 24 - place % 4 * 8;
            guard.feed(five[0], five[1], five[2], five[3], five[4]);
            Check.equal("load of byte 255", guard.load(20), -11);
            Check.equal("its position", guard.errorPosition(), place);
        }
    }

    private static void loadLength() {
        Check.says("Throws `IllegalArgumentException` if length is negative or greater than the number of bytes in the buffer "
            + "(nothing changes)");
        Refused refused = new Refused(EdgeTextTest::busy);
        for (int length : new int[] {-1, 21, 700, Integer.MIN_VALUE, Integer.MAX_VALUE}) {
            refused.illegal("load(" + length + ") of 20", guard -> guard.load(length));
        }
        ShardGuard empty = new ShardGuard();
        Check.illegal("load(1) of nothing", () -> empty.load(1));
        Check.illegal("load(-1) of nothing", () -> empty.load(-1));
        Check.equal("load(0) of nothing", empty.load(0), -11);
        Check.equal("its position", empty.errorPosition(), 0);
        Check.equal("load of all bytes", withBuffer("workers  2 size   1;").load(20), 0);
        Check.equal("load of all but the last", withBuffer("workers  2 size   1;").load(19), -11);
        Check.equal("load of 0 of 20", withBuffer("workers  2 size   1;").load(0), -11);
        Check.equal("load(700)", withBuffer(Check.filled("", 680) + "workers  2 size   1;").load(700), 0);
    }

    /** A fleet with a quarantine, a worker that is down, parked requests, operations, a snapshot, 20 bytes. */
    private static ShardGuard busy() {
        ShardGuard guard = Check.loaded("workers 3 size 1; limit 1; tenant 0; tenant 1; tenant 2; request 0 1 poisoned;"
            + "request 1 9; request 2 4;");
        guard.pass(1);
        guard.saveSnapshot();
        guard.kill(2);
        guard.set(0, 7);
        guard.submit(1, 3, true);
        guard.format(1);
        Check.load(guard, "workers 2 size 9;");
        Check.feed(guard, "many state = 4 #");
        return guard;
    }

    private static void loadReplaces() {
        Check.says("which replaces everything (the time is 0, no kills were made)");
        String text = "workers 2 size 1; tenant 1;";
        ShardGuard guard = busy();
        Check.query(guard, "");
        Check.equal("load", Check.load(guard, text), 1);
        Check.equal("all", Check.everything(guard), Check.everything(Check.loaded(text)));
        Check.equal("the time", guard.size(4), 0);
        Check.equal("no kills", guard.size(7) + guard.tenant(0, 6) + guard.tenant(0, 7) + guard.worker(0, 4)
            + guard.killsOf(0, 0) + guard.killingPairs(), 0);
        Check.equal("the usual restart", guard.setting(0), 5);
        Check.equal("no requests", guard.size(3) + guard.size(6), 0);
        Check.equal("number of the first request", guard.submit(0, 1, false), 0);
    }

    private static void loadReplacesMore() {
        Check.says("which replaces everything");
        String more = "workers 12 size 2; restart 1; retries 5; limit 2; window 99;" + "tenant 0 1;".repeat(12)
            + "request 0 1 poisoned;" + "request 1 2;".repeat(20);
        String fewer = "workers 3 size 1; restart 2; limit 2; tenant 0; tenant 1; request 0 1 poisoned; request 1 2;";
        String due = shown(Check.loaded(fewer));
        // What looked ahead before must leave nothing either.
        for (int look = 0; look < 6; look++) {
            ShardGuard guard = Check.loaded(more);
            guard.pass(2);
            guard.kill(11);
            guard.kill(0);
            lookAhead(guard, look);
            Check.equal("load", Check.load(guard, fewer), 2);
            Check.equal("all behind look " + look, shown(guard), due);
        }
    }

    private static void lookAhead(ShardGuard guard, int look) {
        if (look == 1) {
            guard.doneBehind(200);
        } else if (look == 2) {
            guard.poisonKills(1);
        } else if (look == 3) {
            guard.poisonHarm(1);
        } else if (look == 4) {
            guard.bestSeed();
        } else if (look == 5) {
            guard.doneBehind(1);
        }
    }

    /** Tells what all calls of a small fleet answer, now and behind some ticks. */
    private static String shown(ShardGuard guard) {
        StringBuilder text = new StringBuilder(Check.everything(guard));
        text.append(guard.greatestOverlap()).append(' ').append(guard.meanOverlap()).append(' ').append(guard.bestSeed());
        text.append(' ').append(guard.killingPairs()).append(' ').append(guard.served()).append(' ').append(guard.doneBehind(9));
        for (int tenant = 0; tenant < guard.size(2); tenant++) {
            text.append(' ').append(guard.bestShard(tenant)).append(' ').append(guard.covered(tenant)).append(' ')
                .append(guard.drawn(tenant, 9)).append(' ').append(guard.poisonKills(tenant)).append(' ')
                .append(guard.poisonHarm(tenant)).append(' ').append(Check.formatted(guard, tenant));
        }
        text.append(' ').append(Check.query(guard, "many attempts = 0")).append(' ').append(Check.query(guard, "many rest = cost"));
        guard.pass(3);
        return text + Check.everything(guard);
    }

    private static void loadDiscards() {
        Check.says("the undo history and the snapshot are discarded");
        ShardGuard guard = busy();
        Check.query(guard, "");
        Check.equal("before", guard.undoCount(), 4);
        Check.load(guard, HEAD);
        Check.equal("undoCount", guard.undoCount(), 0);
        Check.equal("undo", guard.undo(), ShardGuard.NONE);
        Check.equal("restoreSnapshot", guard.restoreSnapshot() ? 1 : 0, 0);
        Check.equal("the new fleet stays", guard.size(0), 3);
        guard.pass(1);
        Check.equal("one operation", guard.undo(), 0);
        Check.equal("no more", guard.undo(), ShardGuard.NONE);
    }

    private static void loadAfterError() {
        Check.says("-10 minus the error code if the text has an error (then only the buffer and the error position change)");
        String[] texts = {"workers 2 size 1; x", "workers 2 size 3;", "workers 2 size 1;" + "tenant 0;".repeat(13),
            "workers 4 size 2; restart 9; tenant 1 1;", ""};
        int[] codes = {1, 2, 3, 4, 1};
        int[] places = {18, 15, 125, 38, 0};
        for (int i = 0; i < texts.length; i++) {
            ShardGuard guard = busy();
            ShardGuard due = busy();
            Check.query(guard, "");
            Check.query(due, "");
            Check.equal("load of " + texts[i], Check.load(guard, texts[i]), -10 - codes[i]);
            Check.equal("its position", guard.errorPosition(), places[i]);
            Check.equal("all", Check.everything(guard), Check.everything(due));
            Check.equal("what was formatted", Check.lastFormatted(guard), Check.lastFormatted(due));
            guard.pass(20);
            due.pass(20);
            Check.equal("all behind ticks", Check.everything(guard), Check.everything(due));
            Check.equal("undo", guard.undo() + guard.undo(), due.undo() + due.undo());
            Check.equal("all behind undo", Check.everything(guard), Check.everything(due));
            Check.equal("the snapshot", guard.restoreSnapshot() ? 1 : 0, 1);
        }
    }

    private static void loadEmpties() {
        Check.says("The buffer is empty afterwards, also after an error.");
        for (String text : new String[] {HEAD, "workers 3 size 2; #", "#"}) {
            ShardGuard guard = withBuffer(text + " workers 2 size 1;");
            guard.load(text.length());
            Check.illegal("load(1) behind " + text, () -> guard.load(1));
            Check.illegal("query(1) behind " + text, () -> guard.query(1));
            Check.equal("feed behind " + text, guard.feed(0, 0, 0, 0, 0), 20);
        }
        ShardGuard none = withBuffer(HEAD);
        none.load(0);
        Check.illegal("load(1) behind load(0)", () -> none.load(1));
        // What was in the buffer before is not read with what is fed anew.
        ShardGuard anew = withBuffer(Check.filled("#", 40));
        anew.load(40);
        Check.equal("load", Check.load(anew, "workers 2 size 2;"), 0);
        Check.equal("no error", anew.errorPosition(), ShardGuard.NONE);
    }

    private static void errorPosition() {
        Check.says("Returns the position of the first byte of the token with the error, for the most recent call of load or "
            + "query that read the buffer; NONE if that text had no error, or if there was no such call.");
        ShardGuard guard = new ShardGuard();
        Check.equal("no such call", guard.errorPosition(), ShardGuard.NONE);
        Check.load(guard, "workers\n\n 2 size 12345;");
        Check.equal("the first byte of a number", guard.errorPosition(), 17);
        Check.load(guard, HEAD);
        Check.equal("no error", guard.errorPosition(), ShardGuard.NONE);
        Check.query(guard, "many (costs = 1)");
        Check.equal("the first byte of a query's word", guard.errorPosition(), 6);
        Check.load(guard, HEAD + " tenantx");
        Check.equal("the first byte of a word", guard.errorPosition(), 18);
        Check.query(guard, "first 0=0");
        Check.equal("a query without an error", guard.errorPosition(), ShardGuard.NONE);
        Check.load(guard, "w");
        Check.equal("the first byte of the text", guard.errorPosition(), 0);
    }

    private static void errorPositionThatStays() {
        Check.says("for the most recent call of load or query that read the buffer");
        ShardGuard guard = new ShardGuard();
        Check.illegal("load(1) of nothing", () -> guard.load(1));
        Check.equal("behind an exception", guard.errorPosition(), ShardGuard.NONE);
        Check.load(guard, HEAD + "!");
        Check.illegal("load(-1)", () -> guard.load(-1));
        Check.illegal("load(1)", () -> guard.load(1));
        Check.illegal("query(-1)", () -> guard.query(-1));
        Check.illegal("query(201)", () -> guard.query(201));
        guard.feed(0, 0, 0, 0, 0);
        guard.pass(1);
        guard.undo();
        guard.saveSnapshot();
        guard.restoreSnapshot();
        guard.format(0);
        Check.equal("behind all these", guard.errorPosition(), 17);
        // A query with an error behind a load without one.
        guard.load(0);
        Check.load(guard, HEAD);
        Check.query(guard, "many");
        Check.equal("behind a query", guard.errorPosition(), 4);
    }

    private static void words() {
        Check.says("a word is a maximal run of the letters 'a' to 'z'");
        // The signs before 'a' and behind 'z', and capital letters, are no letters.
        Check.loadError("workers 3 size 2; restart` 5;", 1, 25);
        Check.loadError("workers 3 size 2; restart{ 5;", 1, 25);
        Check.loadError("workers 3 size 2; restarT 5;", 1, 18);
        Check.loadError("Workers 3 size 2;", 1, 0);
        Check.loadError("workersize 3 size 2;", 1, 0);
        Check.loadError("work ers 3 size 2;", 1, 0);
        Check.loadError("workers 3 sizes 2;", 1, 10);
        Check.loadError("workers 3 siz 2;", 1, 10);
        Check.loadError("workers 3 size 2; aaz 2;", 1, 18);
        Check.loadError("workers 3 size 2; quarantin 2;", 1, 18);
        Check.loadError("workers 3 size 2; quarantinee 2;", 1, 18);
        Check.equal("words and numbers need no blank", Check.load(new ShardGuard(), "workers3size2;window7;"), 0);
        Check.loadError("workers 3 size 2;windowretries 7;", 1, 17);
    }

    private static void numbers() {
        Check.says("a number is a maximal run of decimal digits");
        // The signs before '0' and behind '9' are no digits.
        Check.loadError("workers /2 size 1;", 1, 8);
        Check.loadError("workers 2/ size 1;", 1, 9);
        Check.loadError("workers :2 size 1;", 1, 8);
        Check.loadError("workers 2: size 1;", 1, 9);
        Check.loadError("workers +2 size 1;", 1, 8);
        Check.loadError("workers 2.0 size 1;", 1, 9);
        Check.loadError("workers 1 2 size 1;", 2, 8);
        Check.loadError("workers 2 1 size 1;", 1, 10);
        // A number stops where the length stops it.
        ShardGuard guard = withBuffer("workers 2 size 1;restart 500;");
        Check.equal("the text ends in the number", guard.load(26), -11);
        Check.equal("its position", guard.errorPosition(), 26);
        // Numbers that would be in range if they wrapped around.
        String[] wraps = {"4294967298", "8589934594", "18446744073709551618", "340282366920938463463374607431768211458",
            "2147483648", "4294967296", "1" + "0".repeat(400) + "2"};
        for (String number : wraps) {
            Check.loadError("workers " + number + " size 1;", 2, 8);
        }
        for (String number : new String[] {"32", "33", "64", "256", "257", "65536", "4294967296", "100000", "100001"}) {
            Check.loadError("workers 3 size 2; tenant 0 " + number + ";", 2, 27);
            Check.loadError("workers 3 size 2; tenant 0 1; request " + number + " 1;", 2, 38);
        }
    }

    private static void leadingZeros() {
        Check.says("(leading zeros are allowed)");
        String zeros = "0".repeat(500);
        ShardGuard guard = Check.loaded("workers " + zeros + "12 size 04; restart 050; tenant 00 0011 007 9; request 000 0020;");
        Check.equal("workers", guard.size(0), 12);
        Check.equal("size", guard.size(1), 4);
        Check.equal("restart", guard.setting(0), 50);
        Check.equal("shard", guard.tenant(0, 0), 1 | 1 << 11 | 1 << 7 | 1 << 9);
        Check.equal("cost", guard.request(0, 1), 20);
        Check.equal("only zeros", Check.loaded(HEAD + "retries " + zeros + ";").setting(1), 0);
        Check.loadError("workers " + zeros + " size 1;", 2, 8);
        Check.loadError("workers " + zeros + "13 size 1;", 2, 8);
    }

    private static void otherBytes() {
        Check.says("every other byte except space (32) and line feed (10) is a token by itself");
        for (int sign = 0; sign < 256; sign++) {
            boolean isBlank = sign == 32 || sign == 10;
            if (isBlank || sign == ';') {
                continue;
            }
            ShardGuard guard = new ShardGuard();
            boolean isLetter = sign >= 'a' && sign <= 'z';
            boolean isGood = sign == '0' || sign == '1';
            // Behind ';' each is an error at its place, and so is each before a number but 02 and 12.
            Check.equal("byte " + sign, Check.load(guard, "workers 2 size 1;" + (char) sign), -11);
            Check.equal("its position", guard.errorPosition(), 17);
            Check.load(guard, "workers" + (char) sign + "2 size 1;");
            Check.equal("position of byte " + sign + " behind a word", guard.errorPosition(), isLetter ? 0 : isGood ? -1 : 7);
        }
        Check.loadError("workers 2 size 1;##", 1, 17);
        Check.loadError("workers 2 size 1;\u0000", 1, 17);
        Check.loadError("workers\t2 size 1;", 1, 7);
        Check.loadError("workers\r2 size 1;", 1, 7);
        Check.loadError("workers 2 size 1;;", 1, 17);
    }

    private static void blanks() {
        Check.says("Spaces and line feeds may appear before, between and behind tokens.");
        ShardGuard guard = new ShardGuard();
        Check.equal("before", Check.load(guard, "\n \n workers 2 size 1;"), 0);
        Check.equal("between", Check.load(guard, "workers\n\n2\n size\n1 \n ;\ntenant\n0\n;request\n0\n\n3\npoisoned\n;"), 1);
        Check.equal("behind", Check.load(guard, "workers 2 size 1; \n \n"), 0);
        Check.equal("to the last byte", Check.load(guard, Check.filled("workers 2 size 1;", 699) + "\n"), 0);
        Check.equal("from the first byte", Check.load(guard, "\n" + Check.filled("", 682) + "workers 2 size 1;"), 0);
        // A blank splits a word or a number.
        Check.loadError("workers 1 2 size 1;", 2, 8);
        Check.loadError("work\ners 2 size 1;", 1, 0);
    }

    private static void withoutSettings() {
        Check.says("Without a setting the restart is 5, the retries are 2, the limit is 3, the window 20 and the quarantine "
            + "50");
        ShardGuard guard = Check.loaded("workers 2 size 1; restart 50; retries 5; limit 9; window 99; quarantine 999;");
        Check.load(guard, "workers 2 size 1; tenant 0;");
        int[] usual = {5, 2, 3, 20, 50};
        for (int what = 0; what < 5; what++) {
            Check.equal("setting(" + what + ") behind others", guard.setting(what), usual[what]);
        }
        // One setting alone changes no other.
        String[] names = {"restart", "retries", "limit", "window", "quarantine"};
        for (int one = 0; one < 5; one++) {
            ShardGuard other = Check.loaded("workers 2 size 1;" + names[one] + " 4;");
            for (int what = 0; what < 5; what++) {
                Check.equal("setting(" + what + ") beside " + names[one], other.setting(what), what == one ? 4 : usual[what]);
            }
        }
    }

    private static void lastOfAKind() {
        Check.says("the last one of a kind counts");
        ShardGuard guard = Check.loaded("workers 2 size 1; limit 4; restart 6; limit 9; restart 50; limit 1; restart 1;");
        Check.equal("the limit", guard.setting(2), 1);
        Check.equal("the restart", guard.setting(0), 1);
        StringBuilder many = new StringBuilder("workers2size1;");
        while (many.length() < 680) {
            many.append("limit").append(many.length() % 9 + 1).append(';');
        }
        Check.equal("many of a kind", Check.loaded(many + "limit 7;").setting(2), 7);
        // One that is out of range is an error, though another one follows.
        Check.loadError("workers 2 size 1; limit 10; limit 1;", 2, 24);
    }

    private static void workerNumbers() {
        Check.says("WORKER and TENANT are numbers of workers and of earlier tenants.");
        Check.loadError("workers 3 size 2; tenant 0 3;", 2, 27);
        Check.loadError("workers 3 size 2; tenant 3 0;", 2, 25);
        Check.loadError("workers 12 size 1; tenant 12;", 2, 26);
        Check.equal("the first and the last worker", Check.loaded("workers 12 size 2; tenant 11 0;").tenant(0, 0), 2049);
        Check.equal("the last of two", Check.loaded("workers 2 size 1; tenant 1;").tenant(0, 0), 2);
    }

    private static void earlierTenants() {
        Check.says("WORKER and TENANT are numbers of workers and of earlier tenants.");
        Check.loadError("workers 2 size 1; request 0 1;", 2, 26);
        Check.loadError("workers 2 size 1; tenant 0; request 1 1;", 2, 36);
        Check.loadError("workers 2 size 1; tenant 0; tenant 1; request 2 1;", 2, 46);
        Check.equal("the last tenant", Check.loaded("workers 2 size 1; tenant 0; tenant 1; request 1 1;").request(0, 0), 1);
        String twelve = "workers 2 size 1;" + "tenant 0;".repeat(12);
        Check.equal("the 12th", Check.loaded(twelve + "request 11 1;").request(0, 0), 11);
        Check.loadError(twelve + "request 12 1;", 2, twelve.length() + 8);
        // Tenants of the fleet that the text would replace do not count.
        ShardGuard guard = Check.loaded("workers 2 size 1; tenant 0; tenant 1;");
        Check.equal("load", Check.load(guard, "workers 2 size 1; tenant 0; request 1 1;"), -12);
    }

    private static void differentWorkers() {
        Check.says("A tenant tells as many different workers as the size of a shard.");
        for (int size = 1; size <= 4; size++) {
            String head = "workers 12 size " + size + "; tenant";
            StringBuilder text = new StringBuilder(head);
            for (int i = 0; i < size; i++) {
                Check.loadError(text + ";", 1, text.length());
                text.append(' ').append(11 - 3 * i);
            }
            Check.equal("enough workers", Check.load(new ShardGuard(), text + ";"), 1);
            Check.loadError(text + " 1;", 1, text.length() + 1);
        }
    }

    private static void routedInOrder() {
        Check.says("The requests are routed in their order.");
        ShardGuard guard = Check.loaded("workers 3 size 3; tenant 2 1 0; request 0 3; request 0 2; request 0 1; request 0 1;"
            + "request 0 1; request 0 5;");
        Check.equal("queue 0", Check.formatted(guard, 0), "w0 up 0:3");
        Check.equal("queue 1", Check.formatted(guard, 1), "w1 up 1:2 4:1");
        Check.equal("queue 2", Check.formatted(guard, 2), "w2 up 2:1 3:1 5:5");
        Check.equal("no ticks", guard.size(4), 0);
        Check.equal("no operations", guard.undoCount(), 0);
    }

    private static void firstError() {
        Check.says("The text is checked token by token, and the first token with an error determines the result.");
        Check.loadError("workers 1 size 9; x", 2, 8);
        Check.loadError("workers 2 size 9 x", 2, 15);
        Check.loadError("workers 2 x 9;", 1, 10);
        Check.loadError("workers 3 size 2; tenant 0 0 9;", 4, 27);
        Check.loadError("workers 3 size 2; tenant 0 9 0;", 2, 27);
        Check.loadError("workers 3 size 2; tenant 0 1; request 5 99 x", 2, 38);
        Check.loadError("workers 3 size 2; tenant 0 1; request 0 99 x", 2, 40);
        Check.loadError("workers 3 size 2; limit 10 tenant 0 0;", 2, 24);
        Check.loadError("workers 3 size 2; tenant 0 1; request 0 1; x request 9 99;", 1, 43);
    }

    private static void smallestCode() {
        Check.says("If several codes apply to one token, the smallest one counts.");
        // Behind enough workers a number is not allowed; it is also out of range, or one that the tenant has.
        Check.loadError("workers 3 size 2; tenant 0 1 3;", 1, 29);
        Check.loadError("workers 3 size 2; tenant 0 1 99999999999;", 1, 29);
        Check.loadError("workers 3 size 2; tenant 0 1 1;", 1, 29);
        Check.loadError("workers 3 size 1; tenant 0 0;", 1, 27);
        // The keyword of the 13th tenant where no tenant may stand, and of the 61st request where no request may.
        String twelve = "workers 2 size 1;" + "tenant 0;".repeat(12);
        Check.loadError(twelve + "request 0 1; tenant 0;", 1, twelve.length() + 13);
        Check.loadError(twelve.substring(0, twelve.length() - 1) + " tenant 0;", 1, twelve.length());
        String sixty = "workers2size1;tenant0;" + "request0 1;".repeat(60);
        Check.loadError(sixty.substring(0, sixty.length() - 1) + "request", 1, sixty.length() - 1);
        Check.loadError(sixty + "tenant", 1, sixty.length());
    }

    private static void misplaced() {
        Check.says("1: the token is not allowed here");
        // Every token of the grammar at every place where it may not stand.
        String[] good = {"workers", "3", "size", "2", ";", "restart", "9", ";", "tenant", "0", "1", ";", "request", "0", "4",
            "poisoned", ";"};
        String[] all = {"workers", "size", "restart", "retries", "limit", "window", "quarantine", "tenant", "request",
            "poisoned", ";", "1", "many", "x", "(", "-"};
        for (int place = 0; place <= good.length; place++) {
            StringBuilder before = new StringBuilder();
            for (int i = 0; i < place; i++) {
                before.append(good[i]).append(' ');
            }
            for (String token : all) {
                if (!mayStand(place, token)) {
                    Check.loadError(before + token, 1, before.length());
                }
            }
        }
    }

    /** Tells whether a token may stand behind so many tokens of the text above (a number, whatever its range). */
    private static boolean mayStand(int place, String token) {
        switch (place) {
            case 0: return token.equals("workers");
            case 1: case 3: case 6: case 9: case 10: case 13: case 14: return token.equals("1");
            case 2: return token.equals("size");
            case 4: case 7: case 11: case 16: return token.equals(";");
            case 5: case 8:
                return "restart retries limit window quarantine tenant request".contains(token) && token.length() > 4;
            case 12: return token.equals("tenant") || token.equals("request");
            case 15: return token.equals("poisoned") || token.equals(";");
            default: return token.equals("request");
        }
    }

    private static void tooFewWorkers() {
        Check.says("also ';' behind too few workers");
        Check.loadError("workers 3 size 2; tenant;", 1, 24);
        Check.loadError("workers 3 size 2; tenant 0;", 1, 26);
        Check.loadError("workers 4 size 4; tenant 0 1 2;", 1, 30);
        Check.loadError("workers 2 size 1; tenant;", 1, 24);
    }

    private static void enoughWorkers() {
        Check.says("and a number behind enough of them");
        Check.loadError("workers 3 size 2; tenant 0 1 2;", 1, 29);
        Check.loadError("workers 2 size 1; tenant 0 1;", 1, 27);
        Check.loadError("workers 5 size 4; tenant 0 1 2 3 4;", 1, 33);
    }

    private static void endsTooEarly() {
        Check.says("or the text ends too early (the position is then the length of the text)");
        String[] parts = {"", "workers", "workers 3", "workers 3 size", "workers 3 size 2", "workers 3 size 2; window",
            "workers 3 size 2; window 9", "workers 3 size 2; tenant", "workers 3 size 2; tenant 0",
            "workers 3 size 2; tenant 0 1", "workers 3 size 2; tenant 0 1; request", "workers 3 size 2; tenant 0 1; request 0",
            "workers 3 size 2; tenant 0 1; request 0 4", "workers 3 size 2; tenant 0 1; request 0 4 poisoned"};
        for (String part : parts) {
            Check.loadError(part, 1, part.length());
            Check.loadError(part + " ", 1, part.length() + 1);
            Check.loadError(part + "\n  \n", 1, part.length() + 4);
        }
        Check.loadError(Check.filled("workers", 700), 1, 700);
        // Where the text may end it has no error.
        for (String whole : new String[] {"workers 3 size 2;", "workers 3 size 2; window 9;", "workers 3 size 2; tenant 0 1;",
            "workers 3 size 2; tenant 0 1; request 0 4;"}) {
            Check.loaded(whole);
            Check.loaded(whole + " \n ");
        }
    }

    private static void outOfRange() {
        Check.says("2: where a number can stand, a number that is out of range.");
        String[] before = {"workers ", "workers 4 size ", "workers 4 size 2; restart ", "workers 4 size 2; retries ",
            "workers 4 size 2; limit ", "workers 4 size 2; window ", "workers 4 size 2; quarantine ",
            "workers 4 size 2; tenant ", "workers 4 size 2; tenant 3 ", "workers 4 size 2; tenant 0 1; request ",
            "workers 4 size 2; tenant 0 1; request 0 "};
        int[] least = {2, 1, 1, 0, 1, 1, 1, 0, 0, 0, 1};
        int[] greatest = {12, 4, 50, 5, 9, 99, 999, 3, 2, 0, 20};
        int[] outside = {13, 5, 51, 6, 10, 100, 1000, 4, 4, 1, 21};
        for (int i = 0; i < before.length; i++) {
            // Inside the text only ends too early, behind the number.
            Check.loadError(before[i] + least[i], 1, before[i].length() + ("" + least[i]).length());
            Check.loadError(before[i] + greatest[i], 1, before[i].length() + ("" + greatest[i]).length());
            Check.loadError(before[i] + outside[i], 2, before[i].length());
            Check.loadError(before[i] + "2147483648", 2, before[i].length());
            if (least[i] > 0) {
                Check.loadError(before[i] + (least[i] - 1), 2, before[i].length());
            }
        }
    }

    private static void tooManyTenants() {
        Check.says("3: the keyword of the 13th tenant or the 61st request");
        String twelve = "workers 2 size 1;" + "tenant 0;".repeat(12);
        Check.equal("12 tenants", Check.load(new ShardGuard(), twelve), 12);
        Check.loadError(twelve + "tenant 1;", 3, twelve.length());
        Check.loadError(twelve + " tenant", 3, twelve.length() + 1);
        Check.loadError(twelve + "tenant x", 3, twelve.length());
        Check.loadError(twelve + "tenants", 1, twelve.length());
        // The 13th in one text, not of all texts.
        ShardGuard guard = Check.loaded(twelve);
        Check.equal("12 others", Check.load(guard, twelve), 12);
    }

    private static void tooManyRequests() {
        Check.says("3: the keyword of the 13th tenant or the 61st request");
        String sixty = "workers2size1;tenant0;" + "request0 1;".repeat(60);
        Check.equal("60 requests", Check.loaded(sixty).size(3), 60);
        Check.loadError(sixty + "request0 1;", 3, sixty.length());
        Check.loadError(sixty + "\nrequest", 3, sixty.length() + 1);
        Check.loadError(sixty + "request 9", 3, sixty.length());
        Check.loadError(sixty + "requests", 1, sixty.length());
        ShardGuard guard = Check.loaded(sixty);
        Check.load(guard, sixty);
        Check.equal("60 others", guard.size(3), 60);
    }

    private static void workerTwice() {
        Check.says("4: a WORKER that this tenant has already.");
        Check.loadError("workers 3 size 2; tenant 0 0;", 4, 27);
        Check.loadError("workers 3 size 2; tenant 0 000;", 4, 27);
        Check.loadError("workers 12 size 4; tenant 11 10 9 11;", 4, 34);
        Check.loadError("workers 12 size 4; tenant 11 10 9 10;", 4, 34);
        Check.loadError("workers 12 size 4; tenant 11 11", 4, 29);
        Check.loadError("workers 3 size 2; tenant 0 1; tenant 1 1;", 4, 39);
        Check.equal("another tenant's", Check.loaded("workers 3 size 2; tenant 0 1; tenant 1 0;").overlap(0, 1), 2);
        // Only the number counts, not that of a worker 32 or 64 higher.
        Check.loadError("workers 3 size 2; tenant 0 32;", 2, 27);
        Check.loadError("workers 3 size 2; tenant 0 64;", 2, 27);
        Check.loadError("workers 3 size 2; tenant 0 4294967296;", 2, 27);
        // Nor does an earlier text.
        ShardGuard guard = Check.loaded("workers 3 size 2; tenant 0 1;");
        Check.load(guard, "workers 3 size 2; tenant 2 2;");
        Check.equal("load behind an error", Check.load(guard, "workers 3 size 2; tenant 2 1;"), 1);
    }
}
