/** The boundary cases that the document names in "Operations" and in promises 5 to 19 and 23 to 37. */
public final class EdgeCallTest {
    private static final int LEAST = Integer.MIN_VALUE;
    private static final int GREATEST = Integer.MAX_VALUE;
    /** Numbers that stand for none of three, also where they would if they wrapped around. */
    private static final int[] NONE_OF_THREE = {-1, 3, 12, 32, 33, 64, 256, 65536, LEAST, LEAST + 1, GREATEST};

    public static void main(String[] args) {
        size();
        setting();
        worker();
        workerOrWhat();
        tenant();
        countedKills();
        tenantOrWhat();
        request();
        queued();
        parked();
        killsOf();
        killingPairs();
        overlap();
        covered();
        greatestOverlap();
        bestShard();
        drawn();
        bestSeed();
        meanOverlap();
        served();
        submit();
        submitInQuarantine();
        kill();
        killOfOneThatIsDown();
        move();
        moveWrongSize();
        draw();
        release();
        releaseOfAnOpenOne();
        set();
        format();
        numbersInFormat();
        formattedByte();
        formattedAsItWas();
        recorded();
        notRecorded();
        tenMostRecent();
        mostRecentFirst();
        undoRestores();
        undoOfNothing();
        snapshot();
        snapshotOfKills();
        snapshotReplaced();
        restoreOfNothing();
        exceptionsFirst();
        Check.end();
    }

    /**
     * Three workers, tenants and settings of which all calls answer something, with four operations, a snapshot,
     * a formatted text, an error position and 20 bytes in the buffer.
     */
    private static ShardGuard busy() {
        ShardGuard guard = Check.loaded("workers 3 size 1; restart 4; limit 1; window 9; quarantine 30; tenant 0; tenant 1;"
            + "tenant 2; request 0 1 poisoned; request 1 9; request 2 3;");
        guard.pass(1);
        guard.saveSnapshot();
        guard.kill(2);
        guard.pass(2);
        guard.submit(1, 4, true);
        guard.format(1);
        Check.load(guard, "workers 2 size 1; tenant 0; x");
        Check.feed(guard, "many request > 1");
        return guard;
    }

    private static final Refused BUSY = new Refused(EdgeCallTest::busy);

    private static void size() {
        Check.says("8 tenants that are cut off, 9 tenants in quarantine");
        int[] due = {3, 1, 3, 4, 3, 1, 1, 1, 2, 1};
        ShardGuard guard = busy();
        for (int what = 0; what < due.length; what++) {
            Check.equal("size(" + what + ")", guard.size(what), due[what]);
        }
        Check.says("Throws `NoSuchElementException` if what is out of range");
        for (int what : new int[] {-1, 10, 11, 32, LEAST, GREATEST}) {
            BUSY.noSuch("size(" + what + ")", other -> other.size(what));
        }
    }

    private static void setting() {
        Check.says("`what`: 0 restart, 1 retries, 2 limit, 3 window, 4 quarantine");
        int[] due = {4, 2, 1, 9, 30};
        ShardGuard guard = busy();
        for (int what = 0; what < due.length; what++) {
            Check.equal("setting(" + what + ")", guard.setting(what), due[what]);
        }
        for (int what : new int[] {-1, 5, 32, LEAST, GREATEST}) {
            BUSY.noSuch("setting(" + what + ")", other -> other.setting(what));
        }
    }

    private static void worker() {
        Check.says("1 its time to start again (NONE if it is up)");
        int[][] due = {{0, 5, 0, 0, 1, 1}, {1, -1, 2, 10, 0, 1}, {0, 5, 0, 0, 0, 1}};
        ShardGuard guard = busy();
        for (int worker = 0; worker < 3; worker++) {
            for (int what = 0; what < 6; what++) {
                Check.equal("worker(" + worker + ", " + what + ")", guard.worker(worker, what), due[worker][what]);
            }
        }
        guard.pass(2);
        Check.equal("up again", guard.worker(0, 1), ShardGuard.NONE);
    }

    private static void workerOrWhat() {
        Check.says("Throws `NoSuchElementException` if there is no such worker or what is out of range");
        for (int worker : NONE_OF_THREE) {
            BUSY.noSuch("worker(" + worker + ", 0)", guard -> guard.worker(worker, 0));
            BUSY.noSuch("worker(" + worker + ", 5)", guard -> guard.worker(worker, 5));
        }
        for (int what : new int[] {-1, 6, 32, LEAST, GREATEST}) {
            BUSY.noSuch("worker(0, " + what + ")", guard -> guard.worker(0, what));
            BUSY.noSuch("worker(3, " + what + ")", guard -> guard.worker(3, what));
        }
    }

    private static void tenant() {
        Check.says("2 the time when its quarantine ends (NONE if it is open)");
        int[][] due = {{1, 1, 31, 1, 0, 1, 1, 0, 1}, {2, 0, -1, 2, 0, 0, 0, 0, 0}, {4, 0, -1, 1, 0, 0, 0, 0, 1}};
        ShardGuard guard = busy();
        for (int tenant = 0; tenant < 3; tenant++) {
            for (int what = 0; what < 9; what++) {
                Check.equal("tenant(" + tenant + ", " + what + ")", guard.tenant(tenant, what), due[tenant][what]);
            }
        }
        guard.release(0);
        Check.equal("open", guard.tenant(0, 2), ShardGuard.NONE);
        guard.pass(6);
        Check.equal("one of two is done", guard.tenant(1, 4) * 10 + guard.tenant(1, 3), 12);
    }

    private static void countedKills() {
        Check.says("7 those of them that are counted now (as in step 6 of a tick, without those that were counted for an "
            + "earlier quarantine)");
        ShardGuard guard = Check.loaded("workers 2 size 1; restart 2; retries 5; limit 9; window 3; tenant 0; tenant 1;"
            + "request 0 1 poisoned;");
        // Kills at 1, 3, 5 and so on; counted are those at the time and at the two times before it.
        int[] due = {0, 1, 1, 2, 1, 2, 1};
        for (int counted : due) {
            Check.equal("counted at " + guard.size(4), guard.tenant(0, 7), counted);
            Check.equal("of the other tenant", guard.tenant(1, 7), 0);
            guard.pass(1);
        }
        guard.set(3, 99);
        Check.equal("all in a longer window", guard.tenant(0, 7) * 10 + guard.tenant(0, 6), 44);
        guard.set(3, 1);
        Check.equal("that of this time in the shortest one", guard.tenant(0, 7), 1);
        guard.set(2, 1);
        guard.pass(2);
        Check.equal("none behind a quarantine", guard.tenant(0, 7) * 100 + guard.tenant(0, 6) * 10 + guard.tenant(0, 1), 51);
    }

    private static void tenantOrWhat() {
        Check.says("Throws `NoSuchElementException` if there is no such tenant or what is out of range");
        for (int tenant : NONE_OF_THREE) {
            BUSY.noSuch("tenant(" + tenant + ", 0)", guard -> guard.tenant(tenant, 0));
            BUSY.noSuch("tenant(" + tenant + ", 8)", guard -> guard.tenant(tenant, 8));
        }
        for (int what : new int[] {-1, 9, 32, LEAST, GREATEST}) {
            BUSY.noSuch("tenant(0, " + what + ")", guard -> guard.tenant(0, what));
            BUSY.noSuch("tenant(3, " + what + ")", guard -> guard.tenant(3, what));
        }
        Check.noSuch("tenant(0, 0) of none", () -> new ShardGuard().tenant(0, 0));
    }

    private static void request() {
        Check.says("6 the worker in whose queue it is (NONE), 7 the time when it was done, dropped or refused (NONE)");
        int[][] due = {{0, 1, 1, 1, 4, 1, -1, 1}, {1, 9, 6, 0, 0, 0, 1, -1}, {2, 3, 3, 0, 1, 0, -1, -1},
            {1, 4, 4, 1, 0, 0, 1, -1}};
        ShardGuard guard = busy();
        for (int request = 0; request < 4; request++) {
            for (int what = 0; what < 8; what++) {
                Check.equal("request(" + request + ", " + what + ")", guard.request(request, what), due[request][what]);
            }
        }
        guard.pass(6);
        Check.equal("the time of a done one", guard.request(1, 7) * 10 + guard.request(1, 6), 89);
        Check.says("Throws `NoSuchElementException` if there is no such request or what is out of range");
        for (int request : new int[] {-1, 4, 59, 60, 61, 64, LEAST, GREATEST}) {
            BUSY.noSuch("request(" + request + ", 0)", other -> other.request(request, 0));
            BUSY.noSuch("request(" + request + ", 7)", other -> other.request(request, 7));
        }
        for (int what : new int[] {-1, 8, 32, LEAST, GREATEST}) {
            BUSY.noSuch("request(0, " + what + ")", other -> other.request(0, what));
            BUSY.noSuch("request(4, " + what + ")", other -> other.request(4, what));
        }
        Check.noSuch("request(0, 0) of none", () -> new ShardGuard().request(0, 0));
    }

    private static void queued() {
        Check.says("Throws `NoSuchElementException` if there is no such worker or place");
        ShardGuard guard = busy();
        Check.equal("queued(1, 0)", guard.queued(1, 0), 1);
        Check.equal("queued(1, 1)", guard.queued(1, 1), 3);
        for (int place : new int[] {-1, 2, 59, 60, LEAST, GREATEST}) {
            BUSY.noSuch("queued(1, " + place + ")", other -> other.queued(1, place));
        }
        BUSY.noSuch("queued(0, 0) of an empty queue", other -> other.queued(0, 0));
        for (int worker : NONE_OF_THREE) {
            BUSY.noSuch("queued(" + worker + ", 0)", other -> other.queued(worker, 0));
            BUSY.noSuch("queued(" + worker + ", -1)", other -> other.queued(worker, -1));
        }
    }

    private static void parked() {
        Check.says("Throws `NoSuchElementException` if there is no such place");
        Check.equal("parked(0)", busy().parked(0), 2);
        for (int place : new int[] {-1, 1, 59, 60, LEAST, GREATEST}) {
            BUSY.noSuch("parked(" + place + ")", guard -> guard.parked(place));
        }
        Check.noSuch("parked(0) of none", () -> new ShardGuard().parked(0));
        ShardGuard full = Check.loaded("workers 2 size 1; tenant 0;");
        full.kill(0);
        for (int i = 0; i < 60; i++) {
            full.submit(0, 1, false);
        }
        Check.equal("the last of 60", full.parked(59), 59);
        Check.noSuch("the one behind", () -> full.parked(60));
    }

    private static void killsOf() {
        Check.says("Throws `NoSuchElementException` if there is no such tenant or worker");
        ShardGuard guard = busy();
        for (int tenant = 0; tenant < 3; tenant++) {
            for (int worker = 0; worker < 3; worker++) {
                Check.equal("killsOf(" + tenant + ", " + worker + ")", guard.killsOf(tenant, worker), tenant + worker > 0 ? 0 : 1);
            }
        }
        for (int number : NONE_OF_THREE) {
            BUSY.noSuch("killsOf(" + number + ", 0)", other -> other.killsOf(number, 0));
            BUSY.noSuch("killsOf(0, " + number + ")", other -> other.killsOf(0, number));
            BUSY.noSuch("killsOf(" + number + ", " + number + ")", other -> other.killsOf(number, number));
        }
    }

    private static void killingPairs() {
        Check.says("Returns the number of different pairs of a tenant and a worker that it has killed.");
        Check.equal("of none", new ShardGuard().killingPairs(), 0);
        ShardGuard guard = Check.loaded("workers 2 size 2; restart 1; limit 9; retries 3; tenant 0 1; tenant 0 1;"
            + "request 0 1 poisoned;");
        guard.kill(1);
        Check.equal("one taken down is no pair", guard.killingPairs(), 0);
        guard.undo();
        int[] due = {1, 2, 2, 2};
        for (int tick = 0; tick < due.length; tick++) {
            guard.pass(1);
            Check.equal("behind tick " + (tick + 1), guard.killingPairs(), due[tick]);
        }
        guard.submit(1, 1, true);
        guard.pass(1);
        Check.equal("another tenant's kill of the same worker", guard.killingPairs(), 3);
        StringBuilder text = new StringBuilder("workers 12 size 1; restart 1; retries 0;");
        for (int i = 0; i < 12; i++) {
            text.append("tenant ").append(i).append(';');
        }
        for (int i = 0; i < 12; i++) {
            text.append("request ").append(i).append(" 1 poisoned;");
        }
        ShardGuard full = Check.loaded(text.toString());
        full.pass(1);
        Check.equal("12 pairs", full.killingPairs(), 12);
        Check.equal("12 kills", full.size(7), 12);
        Check.equal("the last pair", full.killsOf(11, 11), 1);
    }

    private static void overlap() {
        Check.says("Throws `NoSuchElementException` if there is no such tenant");
        Check.equal("of a tenant with itself", busy().overlap(2, 2), 1);
        for (int tenant : NONE_OF_THREE) {
            BUSY.noSuch("overlap(" + tenant + ", 0)", guard -> guard.overlap(tenant, 0));
            BUSY.noSuch("overlap(2, " + tenant + ")", guard -> guard.overlap(2, tenant));
            BUSY.noSuch("overlap(" + tenant + ", " + tenant + ")", guard -> guard.overlap(tenant, tenant));
        }
    }

    private static void covered() {
        Check.says("Returns the number of other tenants that a tenant covers.");
        for (int tenant : NONE_OF_THREE) {
            BUSY.noSuch("covered(" + tenant + ")", guard -> guard.covered(tenant));
        }
        Check.equal("without others", Check.loaded("workers 2 size 2; tenant 0 1;").covered(0), 0);
        ShardGuard full = Check.loaded("workers 2 size 1;" + "tenant 1;".repeat(12));
        Check.equal("eleven others", full.covered(11), 11);
        full.move(0, 1);
        Check.equal("none", full.covered(0), 0);
        Check.equal("ten others", full.covered(11), 10);
    }

    private static void greatestOverlap() {
        Check.says("Returns the greatest overlap of two different tenants; 0 with fewer than two.");
        Check.equal("without tenants", new ShardGuard().greatestOverlap(), 0);
        Check.equal("with one", Check.loaded("workers 4 size 4; tenant 0 1 2 3;").greatestOverlap(), 0);
        ShardGuard two = Check.loaded("workers 8 size 4; tenant 0 1 2 3; tenant 4 5 6 7;");
        Check.equal("with two", two.greatestOverlap(), 0);
        two.move(1, 15);
        Check.equal("the same", two.greatestOverlap(), 4);
        // The greatest one is that of the last two, of the first two, and of the first and the last one.
        String head = "workers 6 size 2;";
        Check.equal("the last two", Check.loaded(head + "tenant 0 1; tenant 2 3; tenant 3 4;").greatestOverlap(), 1);
        Check.equal("the first two", Check.loaded(head + "tenant 0 1; tenant 1 2; tenant 4 5;").greatestOverlap(), 1);
        Check.equal("the first and the last", Check.loaded(head + "tenant 0 1; tenant 2 3; tenant 0 5;").greatestOverlap(), 1);
    }

    private static void bestShard() {
        Check.says("Returns the best shard of a tenant.");
        for (int tenant : NONE_OF_THREE) {
            BUSY.noSuch("bestShard(" + tenant + ")", guard -> guard.bestShard(tenant));
        }
        BUSY.answers("bestShard(0)", guard -> guard.bestShard(0), 1);
        BUSY.answers("bestShard(2)", guard -> guard.bestShard(2), 4);
    }

    private static void drawn() {
        Check.says("`seed`: 0 to 2147483647");
        for (int tenant : NONE_OF_THREE) {
            BUSY.noSuch("drawn(" + tenant + ", 0)", guard -> guard.drawn(tenant, 0));
        }
        for (int seed : new int[] {-1, LEAST, LEAST + 1}) {
            BUSY.illegal("drawn(0, " + seed + ")", guard -> guard.drawn(0, seed));
        }
        // By hand: 12345 / 65536 is 0; the greatest seed makes 15929, modulo 3 it is 2.
        BUSY.answers("drawn(0, 0)", guard -> guard.drawn(0, 0), 1);
        BUSY.answers("drawn(0, 2147483647)", guard -> guard.drawn(0, 2147483647), 4);
    }

    private static void bestSeed() {
        Check.says("Returns the seed from 0 to 99 with which the greatest overlap of two different tenants would be smallest; "
            + "the least one on a tie.");
        Check.equal("without tenants", new ShardGuard().bestSeed(), 0);
        Check.equal("with one", Check.fleet(12, 4, 1).bestSeed(), 0);
        // Reckoned apart from this class: 95 is the only seed without an overlap.
        Check.equal("a great seed", Check.fleet(11, 1, 8).bestSeed(), 95);
        Check.equal("another", Check.fleet(12, 3, 8).bestSeed(), 90);
        // Seed 100 would bring 2, and seed 104 would bring 3, where the best from 0 to 99 bring 3 and 4.
        Check.equal("not seed 100", Check.fleet(11, 4, 11).bestSeed(), 1);
        Check.equal("not seed 104", Check.fleet(6, 4, 11).bestSeed(), 0);
        BUSY.answers("bestSeed behind a load with an error", ShardGuard::bestSeed, 1);
        ShardGuard whole = Check.fleet(4, 4, 12);
        Check.equal("all the same", whole.bestSeed(), 0);
        Refused looks = new Refused(() -> Check.fleet(11, 4, 3));
        looks.answers("bestSeed", ShardGuard::bestSeed, 18);
        ShardGuard tried = Check.fleet(11, 4, 11);
        Check.equal("greatest overlap by seed 0", tried.draw(0), 4);
        Check.equal("greatest overlap by the best seed", tried.draw(1), 3);
    }

    private static void meanOverlap() {
        Check.says("the sum of overlaps and the number of pairs, converted to double, divided; 0 with fewer than two tenants");
        Check.equal("without tenants", new ShardGuard().meanOverlap(), 0.0);
        Check.equal("with one", Check.fleet(4, 4, 1).meanOverlap(), 0.0);
        Check.equal("with two", Check.fleet(4, 4, 2).meanOverlap(), 4.0);
        Check.equal("with twelve", Check.fleet(4, 4, 12).meanOverlap(), 4.0);
        ShardGuard none = Check.loaded("workers 4 size 2; tenant 0 1; tenant 2 3;");
        Check.equal("no overlap", none.meanOverlap(), 0.0);
        // Each pair once: 1, 0 and 1 of three pairs; the quotient of doubles, not of floats.
        ShardGuard three = Check.loaded("workers 4 size 2; tenant 0 1; tenant 1 2; tenant 2 3;");
        Check.equal("two of three", three.meanOverlap(), 0.6666666666666666);
    }

    private static void served() {
        Check.says("as floats (both converted to float, then divided); 0 without requests");
        Check.equal("without requests", new ShardGuard().served(), 0.0f);
        ShardGuard guard = Check.loaded("workers 2 size 1; tenant 0; request 0 1; request 0 1; request 0 1;");
        float[] due = {0.0f, 0.33333334f, 0.6666667f, 1.0f};
        for (float each : due) {
            Check.equal("served at " + guard.size(4), guard.served(), each);
            guard.pass(1);
        }
        ShardGuard one = Check.loaded("workers 2 size 1; tenant 0; request 0 1;");
        Check.equal("none of one", one.served(), 0.0f);
        one.pass(1);
        Check.equal("one of one", one.served(), 1.0f);
        // Dropped and refused ones count as requests, not as done.
        ShardGuard others = Check.loaded("workers 2 size 1; limit 1; retries 0; tenant 0; tenant 1; request 0 1 poisoned;"
            + "request 0 1; request 1 1;");
        others.pass(1);
        Check.equal("one of three", others.served(), 0.33333334f);
    }

    private static ShardGuard sixty() {
        ShardGuard guard = Check.loaded("workers 2 size 1; limit 1; tenant 0; tenant 1; request 1 1 poisoned;");
        guard.pass(1);
        for (int i = 1; i < 60; i++) {
            guard.submit(0, i == 1 ? 1 : 20, false);
        }
        return guard;
    }

    private static void submit() {
        Check.says("Returns its number; -3 if there are 60 requests.");
        for (int tenant : NONE_OF_THREE) {
            BUSY.noSuch("submit(" + tenant + ", 1, false)", guard -> guard.submit(tenant, 1, false));
        }
        for (int cost : new int[] {0, 21, -1, LEAST, GREATEST}) {
            BUSY.illegal("submit(1, " + cost + ", true)", guard -> guard.submit(1, cost, true));
        }
        Check.equal("the last number", Check.loaded("workers 2 size 1; tenant 0;" + "request 0 1;".repeat(54)).submit(0, 1, true), 54);
        Refused full = new Refused(EdgeCallTest::sixty);
        full.answers("submit to an open one", guard -> guard.submit(0, 1, false), -3);
        full.answers("submit to one in quarantine", guard -> guard.submit(1, 20, true), -3);
        ShardGuard guard = sixty();
        guard.pass(1);
        Check.equal("done ones count", guard.submit(0, 1, false), -3);
    }

    private static void submitInQuarantine() {
        Check.says("refused at once if its tenant is in quarantine (it counts as one of the 60; its rest is its cost)");
        ShardGuard guard = Check.loaded("workers 2 size 1; limit 1; tenant 0; request 0 1 poisoned;");
        guard.pass(1);
        for (int number = 1; number < 60; number++) {
            Check.equal("its number", guard.submit(0, 7, number % 2 == 0), number);
        }
        int[] due = {0, 7, 7, 0, 4, 0, -1, 1};
        for (int what = 0; what < due.length; what++) {
            Check.equal("request(59, " + what + ")", guard.request(59, what), due[what]);
        }
        Check.equal("all refused", guard.tenant(0, 5), 60);
        Check.equal("none is parked", guard.size(6), 0);
        Check.equal("the 61st", guard.submit(0, 7, false), -3);
        guard.pass(4);
        Check.equal("none is routed later", guard.worker(0, 2), 0);
        Check.equal("its rest stays", guard.request(59, 2), 7);
    }

    private static void kill() {
        Check.says("a worker goes down without any request being the reason (this is no kill)");
        ShardGuard guard = Check.loaded("workers 3 size 3; retries 0; limit 1; tenant 0 1 2; request 0 1 poisoned;");
        Check.equal("workers that are up then", guard.kill(0), 2);
        Check.equal("the other ones", guard.kill(2), 1);
        Check.equal("none", guard.kill(1), 0);
        Check.equal("no kill", guard.size(7) + guard.worker(0, 4) + guard.tenant(0, 6) + guard.tenant(0, 7)
            + guard.killsOf(0, 0) + guard.killingPairs(), 0);
        Check.equal("no attempt", guard.request(0, 5), 0);
        Check.equal("its time to start again", guard.worker(0, 1), 5);
        Check.equal("no quarantine", guard.pass(4) + guard.size(9), 0);
        Check.says("and the requests of its queue are routed, in their order");
        ShardGuard routed = Check.loaded("workers 3 size 3; tenant 0 1 2; request 0 9; request 0 9; request 0 8; request 0 8;"
            + "request 0 1; request 0 1;");
        Check.equal("queue 2", Check.formatted(routed, 2), "w2 up 2:8 3:8");
        routed.kill(2);
        Check.equal("queue 0", Check.formatted(routed, 0), "w0 up 0:9 4:1 2:8");
        Check.equal("queue 1", Check.formatted(routed, 1), "w1 up 1:9 5:1 3:8");
    }

    private static void killOfOneThatIsDown() {
        Check.says("Returns the number of workers that are up then; -2 if it is down.");
        BUSY.answers("kill of one that a request killed", guard -> guard.kill(0), -2);
        BUSY.answers("kill of one that was taken down", guard -> guard.kill(2), -2);
        for (int worker : NONE_OF_THREE) {
            BUSY.noSuch("kill(" + worker + ")", guard -> guard.kill(worker));
        }
        ShardGuard guard = busy();
        Check.equal("the last one", guard.kill(1), 0);
        Check.equal("it is down now", guard.kill(1), -2);
        guard.pass(2);
        Check.equal("up again", guard.kill(2), 1);
    }

    private static void move() {
        Check.says("Throws `IllegalArgumentException` if the set is negative or has workers that there are not");
        for (int tenant : NONE_OF_THREE) {
            BUSY.noSuch("move(" + tenant + ", 1)", guard -> guard.move(tenant, 1));
        }
        for (int shard : new int[] {-1, -8, 8, 9, 16, 1 << 12, 1 << 30, LEAST, LEAST + 1, GREATEST}) {
            BUSY.illegal("move(0, " + shard + ")", guard -> guard.move(0, shard));
        }
        ShardGuard guard = busy();
        Check.equal("the last worker", guard.move(0, 4), 1);
        Check.equal("the first worker", guard.move(0, 1), 4);
        ShardGuard twelve = Check.loaded("workers 12 size 4; tenant 0 1 2 3;");
        Check.equal("the last four of 12", twelve.move(0, 0xf00), 15);
        Check.illegal("a 13th", () -> twelve.move(0, 0x1e00));
        Check.says("Its requests stay where they are (parked ones till the next tick).");
        Check.equal("a parked one", guard.move(2, 2), 4);
        Check.equal("still parked", guard.request(2, 4), 1);
        guard.move(1, 1);
        Check.equal("queued ones", Check.formatted(guard, 1), "w1 up 1:6 3!:4");
        guard.pass(1);
        Check.equal("routed in the tick", guard.request(2, 6), 1);
    }

    private static void moveWrongSize() {
        Check.says("Returns the shard before; -2 if the set has not the right size.");
        for (int shard : new int[] {0, 3, 5, 6, 7}) {
            BUSY.answers("move(0, " + shard + ")", guard -> guard.move(0, shard), -2);
        }
        ShardGuard four = Check.loaded("workers 5 size 4; tenant 0 1 2 3;");
        Check.equal("three of four", four.move(0, 7), -2);
        Check.equal("five of four", four.move(0, 31), -2);
        Check.equal("four of four", four.move(0, 30), 15);
        Check.equal("the shard before", four.move(0, 15), 30);
    }

    private static void draw() {
        Check.says("Operation: all shards are drawn by a seed. All requests stay where they are.");
        for (int seed : new int[] {-1, LEAST, LEAST + 1}) {
            BUSY.illegal("draw(" + seed + ")", guard -> guard.draw(seed));
        }
        for (int seed : new int[] {0, 1, 99, 2147483647}) {
            ShardGuard guard = busy();
            int[] due = {guard.drawn(0, seed), guard.drawn(1, seed), guard.drawn(2, seed)};
            int greatest = guard.draw(seed);
            for (int tenant = 0; tenant < 3; tenant++) {
                Check.equal("shard " + tenant + " by " + seed, guard.tenant(tenant, 0), due[tenant]);
            }
            Check.equal("the greatest overlap then", greatest, guard.greatestOverlap());
            Check.equal("queued requests", Check.formatted(guard, 1), "w1 up 1:6 3!:4");
            Check.equal("the parked one", guard.parked(0) * 10 + guard.request(2, 4), 21);
            Check.equal("the quarantine", guard.tenant(0, 2), 31);
            Check.equal("recorded", guard.undoCount(), 5);
        }
        ShardGuard none = new ShardGuard();
        Check.equal("without tenants", none.draw(2147483647), 0);
        Check.equal("recorded", none.undoCount(), 1);
        Check.equal("with one", Check.loaded("workers 4 size 4; tenant 0 1 2 3;").draw(0), 0);
    }

    private static void release() {
        Check.says("Returns the ticks that were left of its quarantine; -2 if it is open.");
        ShardGuard guard = Check.loaded("workers 2 size 1; limit 1; quarantine 9; tenant 0; request 0 1 poisoned;");
        guard.pass(1);
        Check.equal("all ticks", guard.release(0), 9);
        guard.undo();
        guard.pass(8);
        Check.equal("the last tick", guard.release(0), 1);
        guard.undo();
        guard.pass(1);
        Check.equal("none: it is open", guard.release(0), -2);
        // What was refused stays so, and the tenant takes requests again.
        guard.undo();
        guard.release(0);
        Check.equal("refused", guard.request(0, 4), 4);
        Check.equal("queued", guard.request(guard.submit(0, 1, false), 4), 0);
    }

    private static void releaseOfAnOpenOne() {
        Check.says("-2 if it is open");
        BUSY.answers("release(1)", guard -> guard.release(1), -2);
        BUSY.answers("release(2)", guard -> guard.release(2), -2);
        for (int tenant : NONE_OF_THREE) {
            BUSY.noSuch("release(" + tenant + ")", guard -> guard.release(tenant));
        }
        ShardGuard guard = busy();
        Check.equal("release(0)", guard.release(0), 28);
        Check.equal("release(0) again", guard.release(0), -2);
    }

    private static void set() {
        Check.says("Throws `NoSuchElementException` if what is out of range (checked first)");
        for (int what : new int[] {-1, 5, 32, LEAST, GREATEST}) {
            BUSY.noSuch("set(" + what + ", 1)", guard -> guard.set(what, 1));
            BUSY.noSuch("set(" + what + ", -1)", guard -> guard.set(what, -1));
        }
        Check.says("Throws `IllegalArgumentException` if value is out of range");
        int[] least = {1, 0, 1, 1, 1};
        int[] greatest = {50, 5, 9, 99, 999};
        int[] before = {4, 2, 1, 9, 30};
        for (int i = 0; i < 5; i++) {
            int what = i;
            for (int value : new int[] {least[what] - 1, greatest[what] + 1, LEAST, GREATEST}) {
                BUSY.illegal("set(" + what + ", " + value + ")", guard -> guard.set(what, value));
            }
            ShardGuard guard = busy();
            Check.equal("the value before", guard.set(what, greatest[what]), before[what]);
            Check.equal("the value before that", guard.set(what, least[what]), greatest[what]);
            Check.equal("the same", guard.set(what, least[what]), least[what]);
            for (int other = 0; other < 5; other++) {
                Check.equal("setting(" + other + ")", guard.setting(other), other == what ? least[what] : before[other]);
            }
        }
    }

    private static void format() {
        Check.says("'w', its number, ' up' or ' down', then for each request of its queue ' ', its number, '!' if it is "
            + "poisoned, ':' and its rest");
        ShardGuard guard = busy();
        Check.equal("down", Check.formatted(guard, 0), "w0 down");
        Check.equal("with requests", Check.formatted(guard, 1), "w1 up 1:6 3!:4");
        Check.equal("its length", guard.format(1), 14);
        guard.pass(2);
        Check.equal("an empty queue", Check.formatted(guard, 0), "w0 up");
        Check.equal("its length", guard.format(0), 5);
        for (int worker : NONE_OF_THREE) {
            BUSY.noSuch("format(" + worker + ")", other -> other.format(worker));
        }
    }

    private static void numbersInFormat() {
        Check.says("Numbers have no leading zeros.");
        ShardGuard guard = Check.loaded("workers 12 size 3; tenant 9 10 11; request 0 1; request 0 9; request 0 10;");
        Check.equal("worker 9", Check.formatted(guard, 9), "w9 up 0:1");
        Check.equal("worker 10", Check.formatted(guard, 10), "w10 up 1:9");
        Check.equal("worker 11", Check.formatted(guard, 11), "w11 up 2:10");
        StringBuilder due = new StringBuilder("w11 up");
        ShardGuard full = Check.loaded("workers 12 size 1; tenant 11;");
        for (int i = 0; i < 60; i++) {
            full.submit(0, i % 20 + 1, i % 3 == 0);
            due.append(' ').append(i).append(i % 3 == 0 ? "!:" : ":").append(i % 20 + 1);
        }
        Check.equal("60 requests", Check.formatted(full, 11), due.toString());
        // The longest text that there is.
        due = new StringBuilder("w11 up");
        ShardGuard longest = Check.loaded("workers 12 size 1; tenant 11;");
        for (int i = 0; i < 60; i++) {
            longest.submit(0, 20, true);
            due.append(' ').append(i).append("!:20");
        }
        Check.equal("the greatest length", longest.format(11), 416);
        Check.equal("the longest text", Check.lastFormatted(longest), due.toString());
    }

    private static void formattedByte() {
        Check.says("NONE if index is out of range or there was no such call");
        ShardGuard guard = Check.loaded("workers 12 size 1; tenant 1;");
        for (int index : new int[] {-1, 0, 1, LEAST, GREATEST}) {
            Check.equal("formattedByte(" + index + ") before", guard.formattedByte(index), ShardGuard.NONE);
        }
        Check.noSuch("format(12)", () -> guard.format(12));
        Check.equal("behind a call that throws", guard.formattedByte(0), ShardGuard.NONE);
        Check.equal("format(11)", guard.format(11), 6);
        String due = "w11 up";
        for (int index = 0; index < 6; index++) {
            Check.equal("formattedByte(" + index + ")", guard.formattedByte(index), due.charAt(index));
        }
        for (int index : new int[] {-1, 6, 7, LEAST, LEAST + 6, GREATEST}) {
            Check.equal("formattedByte(" + index + ")", guard.formattedByte(index), ShardGuard.NONE);
        }
        guard.format(1);
        Check.equal("behind the shorter text", guard.formattedByte(5), ShardGuard.NONE);
        Check.equal("its last byte", guard.formattedByte(4), 'p');
    }

    private static void formattedAsItWas() {
        Check.says("the text of the most recent call of format, as it was then (also behind load, undo and restoreSnapshot)");
        ShardGuard guard = busy();
        String due = "w1 up 1:6 3!:4";
        Check.equal("at first", Check.lastFormatted(guard), due);
        guard.pass(1);
        Check.equal("behind a tick", Check.lastFormatted(guard), due);
        guard.undo();
        guard.undo();
        Check.equal("behind undo", Check.lastFormatted(guard), due);
        guard.restoreSnapshot();
        Check.equal("behind restoreSnapshot", Check.lastFormatted(guard), due);
        Check.noSuch("format(3)", () -> guard.format(3));
        Check.equal("behind a call that throws", Check.lastFormatted(guard), due);
        Check.query(guard, "");
        Check.load(guard, "workers 2 size 9;");
        Check.equal("behind load with an error", Check.lastFormatted(guard), due);
        Check.load(guard, "workers 2 size 1;");
        Check.equal("behind load", Check.lastFormatted(guard), due);
        Check.equal("of the new fleet", Check.formatted(guard, 1), "w1 up");
    }

    private static void recorded() {
        Check.says("Every successful call of an operation is recorded, even if it changes nothing.");
        ShardGuard guard = Check.loaded("workers 3 size 1; limit 1; tenant 0; tenant 2;");
        int shard = guard.drawn(0, 5);
        guard.draw(5);
        Check.equal("draw", guard.undoCount(), 1);
        guard.draw(5);
        Check.equal("the same draw", guard.undoCount(), 2);
        guard.move(0, shard);
        Check.equal("move to the same shard", guard.undoCount(), 3);
        guard.set(0, 5);
        Check.equal("set to the same value", guard.undoCount(), 4);
        guard.pass(1);
        Check.equal("pass without requests", guard.undoCount(), 5);
        guard.submit(0, 1, true);
        Check.equal("submit", guard.undoCount(), 6);
        guard.pass(1);
        guard.submit(0, 1, true);
        Check.equal("submit in quarantine", guard.undoCount(), 8);
        guard.release(0);
        Check.equal("release", guard.undoCount(), 9);
        guard.kill(guard.worker(1, 0) == 1 ? 1 : 0);
        Check.equal("kill", guard.undoCount(), 10);
        Check.equal("undo of the kill", guard.undo(), 9);
        Check.equal("undo of the release", guard.undo() * 10 + guard.tenant(0, 1), 81);
        Check.equal("undo of the refused submit", guard.undo() * 10 + guard.size(3), 71);
    }

    private static void notRecorded() {
        Check.says("A call that returns a negative error code or throws an exception changes nothing");
        ShardGuard guard = sixty();
        for (int left = guard.undoCount(); left > 0; left--) {
            guard.undo();
        }
        Check.equal("move", guard.move(0, 3), -2);
        Check.equal("kill", guard.kill(1), -2);
        Check.equal("release", guard.release(0), -2);
        Check.illegal("pass", () -> guard.pass(0));
        Check.illegal("draw", () -> guard.draw(-1));
        Check.illegal("set", () -> guard.set(0, 0));
        Check.noSuch("set", () -> guard.set(5, 0));
        Check.illegal("submit", () -> guard.submit(0, 0, false));
        Check.noSuch("submit", () -> guard.submit(2, 1, false));
        Check.noSuch("kill", () -> guard.kill(2));
        Check.noSuch("move", () -> guard.move(2, 1));
        Check.noSuch("release", () -> guard.release(2));
        Check.equal("undoCount", guard.undoCount(), 0);
        // Nor is any call recorded that is no operation.
        guard.format(0);
        guard.saveSnapshot();
        guard.restoreSnapshot();
        guard.query(0);
        guard.drawn(0, 1);
        guard.poisonKills(0);
        Check.equal("undoCount", guard.undoCount(), 0);
    }

    private static void tenMostRecent() {
        Check.says("The 10 most recent operations can be undone, the most recent one first.");
        for (int operations = 9; operations <= 21; operations++) {
            ShardGuard guard = new ShardGuard();
            for (int i = 1; i <= operations; i++) {
                guard.pass(1);
                Check.equal("undoCount behind " + i, guard.undoCount(), Math.min(10, i));
            }
            int most = Math.min(10, operations);
            for (int left = most - 1; left >= 0; left--) {
                Check.equal("undo", guard.undo(), left);
                Check.equal("the time then", guard.size(4), operations - most + left);
            }
            Check.equal("one undo more", guard.undo(), ShardGuard.NONE);
            Check.equal("the time stays", guard.size(4), operations - most);
        }
    }

    private static void mostRecentFirst() {
        Check.says("the most recent one first");
        ShardGuard guard = Check.loaded("workers 2 size 1; tenant 0;");
        guard.set(0, 7);
        guard.move(0, 2);
        guard.submit(0, 3, false);
        Check.equal("undo", guard.undo(), 2);
        Check.equal("the request is gone", guard.size(3), 0);
        Check.equal("the shard stays", guard.tenant(0, 0), 2);
        // An operation behind undo comes in the place of what was undone.
        guard.set(1, 5);
        Check.equal("undo", guard.undo(), 2);
        Check.equal("undo", guard.undo(), 1);
        Check.equal("the shard", guard.tenant(0, 0), 1);
        Check.equal("the restart stays", guard.setting(0), 7);
        Check.equal("undo", guard.undo(), 0);
        Check.equal("the restart", guard.setting(0), 5);
        // Undo, ten operations, ten undos: the ring goes round.
        for (int round = 0; round < 3; round++) {
            for (int i = 1; i <= 12; i++) {
                guard.set(4, i);
            }
            for (int i = 11; i >= 2; i--) {
                guard.undo();
                Check.equal("the quarantine", guard.setting(4), i);
            }
            Check.equal("undoCount", guard.undoCount(), 0);
        }
    }

    private interface Change {
        void on(ShardGuard guard);
    }

    private static void undoRestores() {
        Check.says("Undoing restores everything that the operation changed.");
        Change[] changes = {guard -> guard.submit(1, 3, true), guard -> guard.submit(0, 3, true), guard -> guard.pass(1),
            guard -> guard.pass(100), guard -> guard.kill(1), guard -> guard.move(1, 4), guard -> guard.draw(2),
            guard -> guard.release(0), guard -> guard.set(0, 50), guard -> guard.set(1, 0), guard -> guard.set(2, 9),
            guard -> guard.set(3, 99), guard -> guard.set(4, 999)};
        for (int i = 0; i < changes.length; i++) {
            ShardGuard guard = busy();
            String before = Check.everything(guard);
            changes[i].on(guard);
            Check.equal("something changed by " + i, Check.everything(guard).equals(before) ? 1 : 0, 0);
            Check.equal("undo of " + i, guard.undo(), 4);
            Check.equal("all behind undo of " + i, Check.everything(guard), before);
            // What later ticks bring is what they would have brought.
            ShardGuard later = busy();
            changes[i].on(later);
            later.undo();
            later.pass(40);
            ShardGuard due = busy();
            due.pass(40);
            Check.equal("all behind ticks, undo of " + i, Check.everything(later), Check.everything(due));
        }
        // The buffer, the error position, the formatted text and the snapshot are no part of it.
        ShardGuard guard = busy();
        guard.undo();
        Check.equal("the error position", guard.errorPosition(), 28);
        Check.equal("the buffer", guard.query(16), 1);
        Check.equal("the snapshot", guard.restoreSnapshot() ? 1 : 0, 1);
    }

    private static void undoOfNothing() {
        Check.says("NONE if there was nothing to undo");
        Refused fresh = new Refused(ShardGuard::new);
        fresh.answers("undo", ShardGuard::undo, ShardGuard.NONE);
        fresh.answers("undoCount", ShardGuard::undoCount, 0);
        Refused used = new Refused(() -> {
            ShardGuard guard = busy();
            while (guard.undoCount() > 0) {
                guard.undo();
            }
            return guard;
        });
        used.answers("undo", ShardGuard::undo, ShardGuard.NONE);
        ShardGuard guard = new ShardGuard();
        guard.pass(3);
        Check.equal("the only one", guard.undo(), 0);
        Check.equal("no more", guard.undo(), ShardGuard.NONE);
        guard.pass(4);
        Check.equal("one more", guard.undo(), 0);
        Check.equal("the time", guard.size(4), 0);
    }

    private static void snapshot() {
        Check.says("Restores the snapshot and clears the undo history. The snapshot is kept.");
        ShardGuard guard = busy();
        ShardGuard due = Check.loaded("workers 3 size 1; restart 4; limit 1; window 9; quarantine 30; tenant 0; tenant 1;"
            + "tenant 2; request 0 1 poisoned; request 1 9; request 2 3;");
        due.pass(1);
        due.saveSnapshot();
        due.restoreSnapshot();
        String saved = Check.everything(due);
        for (int round = 0; round < 3; round++) {
            Check.equal("restoreSnapshot", guard.restoreSnapshot() ? 1 : 0, 1);
            Check.equal("all", Check.everything(guard), saved);
            Check.equal("undoCount", guard.undoCount(), 0);
            Check.equal("undo", guard.undo(), ShardGuard.NONE);
            guard.pass(round + 1);
            guard.draw(3);
            guard.submit(2, 1, true);
        }
        // What is saved is what was there then, though an undo follows.
        ShardGuard later = busy();
        later.set(0, 9);
        later.saveSnapshot();
        Check.equal("saving is no operation", later.undoCount(), 5);
        later.undo();
        Check.equal("the restart behind undo", later.setting(0), 4);
        later.restoreSnapshot();
        Check.equal("the restart behind restoreSnapshot", later.setting(0), 9);
    }

    private static void snapshotOfKills() {
        Check.says("Saves a snapshot of everything that undoing restores.");
        ShardGuard guard = Check.loaded("workers 3 size 1; retries 0; window 99; limit 9; tenant 0; tenant 1;");
        guard.submit(0, 1, true);
        guard.pass(1);
        guard.saveSnapshot();
        String saved = Check.everything(guard).replace("undo 2", "undo 0");
        // Another kill comes in the place of the one that is undone.
        guard.undo();
        guard.undo();
        guard.pass(9);
        guard.submit(1, 2, true);
        guard.pass(3);
        Check.equal("the other kill", guard.tenant(0, 7) * 10 + guard.tenant(1, 7), 1);
        guard.restoreSnapshot();
        Check.equal("all", Check.everything(guard), saved);
        Check.equal("the kill of the snapshot", guard.tenant(0, 7) * 10 + guard.tenant(1, 7), 10);
        guard.set(3, 1);
        Check.equal("counted at its time", guard.tenant(0, 7), 1);
        guard.pass(1);
        Check.equal("not counted one later", guard.tenant(0, 7), 0);
    }

    private static void snapshotReplaced() {
        Check.says("It replaces an earlier snapshot.");
        ShardGuard guard = busy();
        guard.saveSnapshot();
        guard.pass(5);
        guard.restoreSnapshot();
        Check.equal("the time of the later one", guard.size(4), 3);
        guard.pass(7);
        guard.saveSnapshot();
        guard.pass(7);
        guard.restoreSnapshot();
        Check.equal("the time of the last one", guard.size(4), 10);
    }

    private static void restoreOfNothing() {
        Check.says("Returns true; false if there is no snapshot (nothing changes).");
        Refused none = new Refused(() -> {
            ShardGuard guard = Check.loaded("workers 3 size 1; tenant 0; request 0 4 poisoned;");
            guard.pass(2);
            guard.kill(1);
            guard.format(0);
            Check.feed(guard, "many 0=0");
            return guard;
        });
        none.answers("restoreSnapshot", guard -> guard.restoreSnapshot() ? 1 : 0, 0);
        ShardGuard guard = Check.loaded("workers 2 size 1;");
        guard.saveSnapshot();
        Check.load(guard, "workers 2 size 1; #");
        Check.equal("behind load with an error", guard.restoreSnapshot() ? 1 : 0, 1);
        Check.load(guard, "workers 2 size 1;");
        Check.equal("behind load", guard.restoreSnapshot() ? 1 : 0, 0);
    }

    private static void exceptionsFirst() {
        Check.says("the exceptions are checked before the error codes");
        Refused full = new Refused(EdgeCallTest::sixty);
        full.illegal("submit(0, 0) as the 61st", guard -> guard.submit(0, 0, false));
        full.illegal("submit(0, 21) as the 61st", guard -> guard.submit(0, 21, false));
        full.noSuch("submit(2, 1) as the 61st", guard -> guard.submit(2, 1, false));
        full.noSuch("submit(2, 0) as the 61st", guard -> guard.submit(2, 0, false));
        full.noSuch("submit(-1, 21) as the 61st", guard -> guard.submit(-1, 21, false));
        // Sets of a wrong size with workers that there are not.
        BUSY.illegal("move(0, 24)", guard -> guard.move(0, 24));
        BUSY.illegal("move(0, 15)", guard -> guard.move(0, 15));
        BUSY.illegal("move(0, -2)", guard -> guard.move(0, -2));
        Check.says("(checked first)");
        BUSY.noSuch("submit(3, 0)", guard -> guard.submit(3, 0, false));
        BUSY.noSuch("submit(-1, 21)", guard -> guard.submit(-1, 21, true));
        BUSY.noSuch("move(3, -1)", guard -> guard.move(3, -1));
        BUSY.noSuch("move(-1, 8)", guard -> guard.move(-1, 8));
        BUSY.noSuch("move(3, 3)", guard -> guard.move(3, 3));
        BUSY.noSuch("drawn(3, -1)", guard -> guard.drawn(3, -1));
        BUSY.noSuch("drawn(-1, -1)", guard -> guard.drawn(-1, -1));
        BUSY.noSuch("set(5, -1)", guard -> guard.set(5, -1));
        BUSY.noSuch("set(-1, 1000)", guard -> guard.set(-1, 1000));
    }
}
