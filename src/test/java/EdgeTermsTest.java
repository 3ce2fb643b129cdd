/**
 * The boundary cases that the document names in "What it is", "Workers, tenants, requests" and "Shards", a method
 * for each sentence. Those of a tick stand in EdgeTickTest.
 */
public final class EdgeTermsTest {
    private static final String[] NAMES = {"restart", "retries", "limit", "window", "quarantine"};

    public static void main(String[] args) {
        calls();
        time();
        workers();
        tenants();
        requests();
        requestsThatEnded();
        masks();
        sizeOfShard();
        restart();
        retries();
        limit();
        window();
        quarantineSetting();
        workerAtFirst();
        firstOfQueue();
        tenantAtFirst();
        cost();
        requestAtFirst();
        states();
        load();
        route();
        routeStartsAnew();
        parkedBehind();
        overlap();
        covers();
        cutOff();
        bestShardGreatest();
        bestShardSum();
        bestShardMask();
        bestShardSizes();
        drawModulo();
        drawPlace();
        drawTenants();
        Check.end();
    }

    private static void calls() {
        Check.says("An object is used for at most 512 calls after it has been made");
        ShardGuard guard = new ShardGuard();
        Check.feed(guard, "workers 2 size 1;");
        guard.load(17);
        for (int i = 3; i <= 511; i++) {
            Check.equal("call " + i, guard.pass(19), 0);
        }
        Check.equal("call 512", guard.size(4), 509 * 19);
        ShardGuard full = Check.loaded("workers 12 size 4; restart 1; retries 5; limit 9; tenant 0 1 2 3;");
        int calls = 4 + 1;
        for (int i = 0; i < 60; i++) {
            full.submit(0, 1, true);
            calls++;
        }
        for (; calls < 511; calls++) {
            full.pass(1);
        }
        Check.equal("undo as call 512", full.undo(), 9);
    }

    private static void time() {
        Check.says("Time is counted in ticks from 0.");
        ShardGuard guard = new ShardGuard();
        Check.equal("the time at first", guard.size(4), 0);
        guard.pass(1);
        Check.equal("the time behind a tick", guard.size(4), 1);
        guard.pass(100);
        Check.equal("the time behind 101 ticks", guard.size(4), 101);
    }

    private static void workers() {
        Check.says("There are 2 to 12 workers");
        Check.loadError("workers 1 size 1;", 2, 8);
        Check.loadError("workers 13 size 1;", 2, 8);
        for (int count = 2; count <= 12; count += 10) {
            ShardGuard guard = Check.loaded("workers " + count + " size 1; tenant " + (count - 1) + ";");
            int workers = count;
            Check.equal("workers", guard.size(0), count);
            Check.equal("workers that are up", guard.size(5), count);
            Check.equal("the last worker is up", guard.worker(count - 1, 0), 1);
            Check.equal("kill of the last worker", guard.kill(count - 1), count - 1);
            Check.noSuch("the worker behind it", () -> guard.worker(workers, 0));
            Check.noSuch("kill of the worker behind it", () -> guard.kill(workers));
        }
    }

    private static String twelveTenants() {
        StringBuilder text = new StringBuilder("workers 12 size 1;");
        for (int i = 0; i < 12; i++) {
            text.append("tenant ").append(i).append(';');
        }
        return text.toString();
    }

    private static void tenants() {
        Check.says("at most 12 tenants");
        ShardGuard none = Check.loaded("workers 2 size 1;");
        Check.equal("no tenants", none.size(2), 0);
        Check.noSuch("the first tenant of none", () -> none.tenant(0, 0));
        ShardGuard full = Check.loaded(twelveTenants());
        Check.equal("12 tenants", full.size(2), 12);
        Check.equal("all of them open, none cut off", full.size(8) + full.size(9), 0);
        Check.equal("the last tenant", full.tenant(11, 0), 1 << 11);
        Check.equal("a request of the last tenant", full.submit(11, 1, false), 0);
        Check.equal("its worker", full.request(0, 6), 11);
        Check.noSuch("the tenant behind it", () -> full.tenant(12, 0));
        Check.loadError(twelveTenants() + "tenant 0;", 3, twelveTenants().length());
    }

    private static String sixtyRequests() {
        StringBuilder text = new StringBuilder("workers2size1;tenant0;");
        for (int i = 0; i < 60; i++) {
            text.append("request0 1;");
        }
        return text.toString();
    }

    private static void requests() {
        Check.says("at most 60 requests (all that were ever made), each numbered from 0");
        ShardGuard none = Check.loaded("workers 2 size 1; tenant 0;");
        Check.equal("no requests", none.size(3), 0);
        Check.noSuch("the first request of none", () -> none.request(0, 0));
        ShardGuard full = Check.loaded(sixtyRequests());
        Check.equal("60 requests", full.size(3), 60);
        Check.equal("the first one's place", full.queued(0, 0), 0);
        Check.equal("the last one's place", full.queued(0, 59), 59);
        Check.noSuch("the request behind it", () -> full.request(60, 0));
        Check.equal("a 61st request", full.submit(0, 1, false), -3);
        Check.loadError(sixtyRequests() + "request0 1;", 3, sixtyRequests().length());
    }

    private static void requestsThatEnded() {
        Check.says("at most 60 requests (all that were ever made)");
        ShardGuard guard = Check.loaded("workers 2 size 1; limit 1; retries 0; quarantine 999; tenant 0; tenant 1;");
        Check.equal("one to be dropped", guard.submit(0, 1, true), 0);
        guard.pass(1);
        for (int i = 1; i <= 20; i++) {
            Check.equal("one that is refused", guard.submit(0, 1, false), i);
        }
        for (int i = 21; i < 60; i++) {
            Check.equal("one that is done", guard.submit(1, 1, false), i);
            guard.pass(1);
        }
        Check.equal("none waits", guard.worker(0, 2) + guard.worker(1, 2) + guard.size(6), 0);
        Check.equal("the 61st", guard.submit(1, 1, false), -3);
        Check.equal("the 61st of one in quarantine", guard.submit(0, 1, false), -3);
        guard.undo();
        guard.undo();
        Check.equal("the 60th behind undo", guard.submit(1, 1, false), 59);
    }

    private static void masks() {
        Check.says("bit w stands for worker w");
        ShardGuard guard = Check.loaded("workers 12 size 2; tenant 11 0; tenant 5 1;");
        Check.equal("workers 11 and 0", guard.tenant(0, 0), 2049);
        Check.equal("workers 5 and 1", guard.tenant(1, 0), 34);
        guard.move(1, 2052);
        Check.equal("tenants of worker 11", guard.worker(11, 5), 2);
        Check.equal("tenants of worker 2", guard.worker(2, 5), 1);
        Check.equal("tenants of worker 5", guard.worker(5, 5), 0);
    }

    private static void sizeOfShard() {
        Check.says("the size of a shard (1 to 4, not more than the number of workers)");
        Check.loadError("workers 12 size 0;", 2, 16);
        Check.loadError("workers 12 size 5;", 2, 16);
        Check.loadError("workers 2 size 3;", 2, 15);
        Check.loadError("workers 3 size 4;", 2, 15);
        Check.loadError("workers 4 size 5;", 2, 15);
        int[][] whole = {{2, 2}, {3, 3}, {4, 4}, {12, 1}, {12, 4}, {2, 1}};
        for (int[] pair : whole) {
            ShardGuard guard = Check.loaded("workers " + pair[0] + " size " + pair[1] + ";");
            Check.equal("the size", guard.size(1), pair[1]);
        }
    }

    /** Loads and sets a setting to the values inside and outside of its range. */
    private static void range(int what, int least, int greatest) {
        String head = "workers 2 size 1;" + NAMES[what] + " ";
        Refused refused = new Refused(() -> Check.loaded("workers 2 size 1;"));
        for (int value : new int[] {least, greatest}) {
            Check.equal(NAMES[what] + " " + value, Check.loaded(head + value + ";").setting(what), value);
            ShardGuard guard = new ShardGuard();
            guard.set(what, value);
            Check.equal("set to " + value, guard.setting(what), value);
        }
        for (int value : new int[] {least - 1, greatest + 1}) {
            if (value >= 0) {
                Check.loadError(head + value + ";", 2, head.length());
            }
            refused.illegal("set(" + what + ", " + value + ")", guard -> guard.set(what, value));
        }
    }

    private static void restart() {
        Check.says("the restart (1 to 50)");
        range(0, 1, 50);
        for (int restart : new int[] {1, 50}) {
            ShardGuard guard = Check.loaded("workers 2 size 1; restart " + restart + "; tenant 0; request 0 1 poisoned;");
            guard.pass(1);
            Check.equal("its time to start again", guard.worker(0, 1), 1 + restart);
            guard.kill(1);
            Check.equal("of one that was taken down", guard.worker(1, 1), 1 + restart);
            if (restart > 1) {
                guard.pass(restart - 1);
            }
            Check.equal("still down", guard.size(5), 0);
            guard.pass(1);
            Check.equal("up", guard.worker(1, 0), 1);
            Check.equal("up and killed again", guard.worker(0, 4), 2);
        }
    }

    private static void retries() {
        Check.says("the retries (0 to 5)");
        range(1, 0, 5);
        for (int retries : new int[] {0, 5}) {
            ShardGuard guard = Check.loaded("workers 2 size 1; restart 1; limit 9; retries " + retries
                + "; tenant 0; request 0 1 poisoned;");
            Check.equal("kills with " + retries + " retries", guard.pass(100), retries + 1);
            Check.equal("dropped", guard.request(0, 4), 3);
        }
    }

    private static void limit() {
        Check.says("the limit (1 to 9)");
        range(2, 1, 9);
        ShardGuard one = Check.loaded("workers 2 size 1; limit 1; tenant 0; request 0 1 poisoned;");
        one.pass(1);
        Check.equal("quarantine by the first kill", one.tenant(0, 2), 51);
        ShardGuard nine = Check.loaded("workers 2 size 1; limit 9; restart 1; retries 5; window 99; tenant 0;"
            + "request 0 1 poisoned; request 0 1 poisoned;");
        nine.pass(8);
        Check.equal("open behind 8 kills", nine.tenant(0, 7) * 10 + nine.tenant(0, 1), 80);
        nine.pass(1);
        Check.equal("quarantine by the 9th kill", nine.tenant(0, 6) * 100 + nine.tenant(0, 2), 959);
    }

    private static void window() {
        Check.says("the window (1 to 99)");
        range(3, 1, 99);
        for (int window : new int[] {1, 99}) {
            ShardGuard guard = Check.loaded("workers 2 size 1; retries 0; window " + window
                + "; tenant 0; request 0 1 poisoned;");
            guard.pass(1);
            Check.equal("counted at its own time", guard.tenant(0, 7), 1);
            if (window > 1) {
                guard.pass(window - 1);
            }
            Check.equal("counted at time " + window, guard.tenant(0, 7), 1);
            guard.pass(1);
            Check.equal("not counted one later", guard.tenant(0, 7), 0);
        }
    }

    private static void quarantineSetting() {
        Check.says("the quarantine (1 to 999)");
        range(4, 1, 999);
        for (int length : new int[] {1, 999}) {
            ShardGuard guard = Check.loaded("workers 2 size 1; limit 1; quarantine " + length
                + "; tenant 0; request 0 1 poisoned;");
            guard.pass(1);
            Check.equal("its end", guard.tenant(0, 2), 1 + length);
            for (int left = length - 1; left > 0; left -= Math.min(left, 100)) {
                guard.pass(Math.min(left, 100));
            }
            Check.equal("not open yet", guard.tenant(0, 1), 1);
            guard.pass(1);
            Check.equal("open", guard.tenant(0, 1), 0);
        }
    }

    private static void workerAtFirst() {
        Check.says("A worker is up or down (up at first).");
        ShardGuard guard = Check.loaded("workers 12 size 1;");
        for (int worker = 0; worker < 12; worker++) {
            Check.equal("worker " + worker, guard.worker(worker, 0), 1);
        }
        // Behind another text, too, in which workers were down.
        guard.kill(0);
        guard.kill(11);
        Check.load(guard, "workers 12 size 1;");
        Check.equal("up behind load", guard.size(5), 12);
        Check.equal("no time to start again", guard.worker(11, 1), ShardGuard.NONE);
    }

    private static void firstOfQueue() {
        Check.says("It has a queue of requests, of which it does the first one.");
        ShardGuard guard = Check.loaded("workers 2 size 1; tenant 0; request 0 2; request 0 2; request 0 2;");
        guard.pass(1);
        Check.equal("behind a tick", Check.formatted(guard, 0), "w0 up 0:1 1:2 2:2");
        guard.pass(1);
        Check.equal("behind two", Check.formatted(guard, 0), "w0 up 1:2 2:2");
        guard.pass(3);
        Check.equal("behind five", Check.formatted(guard, 0), "w0 up 2:1");
        guard.pass(1);
        Check.equal("empty", Check.formatted(guard, 0), "w0 up");
        guard.pass(1);
        Check.equal("still empty", guard.worker(0, 3), 0);
    }

    private static void tenantAtFirst() {
        Check.says("is open or in quarantine (open at first)");
        ShardGuard guard = Check.loaded("workers 2 size 1; limit 1; tenant 0; tenant 1; request 0 1 poisoned;");
        Check.equal("open", guard.tenant(0, 1) + guard.tenant(1, 1), 0);
        guard.pass(1);
        Check.equal("in quarantine", guard.size(9), 1);
        Check.load(guard, "workers 2 size 1; tenant 0; tenant 1;");
        Check.equal("open behind load", guard.size(9), 0);
        Check.equal("no end behind load", guard.tenant(0, 2), ShardGuard.NONE);
    }

    private static void cost() {
        Check.says("a cost (1 to 20)");
        String head = "workers 2 size 1; tenant 0; request 0 ";
        Check.loadError(head + "0;", 2, head.length());
        Check.loadError(head + "21;", 2, head.length());
        Refused refused = new Refused(() -> Check.loaded("workers 2 size 1; tenant 0;"));
        refused.illegal("submit(0, 0, false)", guard -> guard.submit(0, 0, false));
        refused.illegal("submit(0, 21, true)", guard -> guard.submit(0, 21, true));
        for (int cost : new int[] {1, 20}) {
            ShardGuard guard = Check.loaded(head + cost + ";");
            Check.equal("the next request", guard.submit(0, cost, false), 1);
            Check.equal("the costs", guard.request(0, 1) * 100 + guard.request(1, 1), cost * 101);
            if (cost > 1) {
                guard.pass(cost - 1);
            }
            Check.equal("not done yet", guard.request(0, 4), 0);
            guard.pass(1);
            Check.equal("done", guard.request(0, 7), cost);
        }
    }

    private static void requestAtFirst() {
        Check.says("has a number of attempts (0 at first), a rest (the cost at first)");
        ShardGuard guard = Check.loaded("workers 2 size 1; tenant 0; request 0 7 poisoned; request 0 20;");
        guard.submit(0, 3, true);
        Check.equal("attempts", guard.request(0, 5) + guard.request(1, 5) + guard.request(2, 5), 0);
        Check.equal("rest", guard.request(0, 2), 7);
        Check.equal("rest", guard.request(1, 2), 20);
        Check.equal("rest", guard.request(2, 2), 3);
        // A request that takes the number of one that was undone starts from 0, too.
        ShardGuard again = Check.loaded("workers 2 size 1; restart 1; tenant 0;");
        again.submit(0, 1, true);
        again.pass(2);
        Check.equal("attempts", again.request(0, 5), 2);
        again.undo();
        again.undo();
        again.submit(0, 2, false);
        Check.equal("attempts behind undo", again.request(0, 5), 0);
        Check.equal("poisoned behind undo", again.request(0, 3), 0);
        Check.equal("time of its end behind undo", again.request(0, 7), ShardGuard.NONE);
    }

    private static void states() {
        Check.says("0 queued (in a worker's queue), 1 parked, 2 done, 3 dropped, 4 refused");
        ShardGuard guard = Check.loaded("workers 4 size 1; retries 0; limit 2; restart 50; tenant 0; tenant 1; tenant 2;"
            + "tenant 3; request 0 1; request 1 1 poisoned; request 2 9; request 3 9;");
        guard.kill(3);
        guard.pass(1);
        Check.equal("done", guard.request(0, 4), 2);
        Check.equal("dropped", guard.request(1, 4), 3);
        Check.equal("queued", guard.request(2, 4), 0);
        Check.equal("parked", guard.request(3, 4), 1);
        guard.move(1, 1);
        guard.submit(1, 1, true);
        guard.submit(1, 4, false);
        guard.pass(1);
        Check.equal("refused", guard.request(5, 4), 4);
    }

    private static void load() {
        Check.says("The load of a worker is the sum of the rests of the requests in its queue.");
        ShardGuard guard = Check.loaded("workers 2 size 2; tenant 0 1; request 0 20; request 0 3; request 0 4;");
        Check.equal("load of one request", guard.worker(0, 3), 20);
        Check.equal("load of two", guard.worker(1, 3), 7);
        guard.pass(1);
        Check.equal("load behind a tick", guard.worker(0, 3), 19);
        Check.equal("load behind a tick", guard.worker(1, 3), 6);
        Check.equal("load of an empty queue", new ShardGuard().worker(1, 3), 0);
        // The greatest load: 60 requests of the greatest cost.
        ShardGuard full = Check.loaded("workers 2 size 1; tenant 1;");
        for (int i = 0; i < 60; i++) {
            full.submit(0, 20, false);
        }
        Check.equal("the greatest load", full.worker(1, 3), 1200);
    }

    private static void route() {
        Check.says("it becomes the last one in the queue of the one with the least load, of several the lowest one");
        ShardGuard guard = Check.loaded("workers 5 size 3; tenant 1 2 4;");
        int[] due = {1, 2, 4, 1, 2, 4, 1};
        int[] costs = {5, 5, 5, 1, 1, 1, 20};
        for (int i = 0; i < due.length; i++) {
            guard.submit(0, costs[i], false);
            Check.equal("worker of request " + i, guard.request(i, 6), due[i]);
        }
        Check.equal("the last one in the queue", guard.queued(1, 2), 6);
        // One request of cost 20 is more than three of cost 1, and what counts is the rest, not the cost.
        ShardGuard rests = Check.loaded("workers 2 size 2; tenant 0 1; request 0 20; request 0 1; request 0 1; request 0 1;");
        Check.equal("three of cost 1", rests.worker(1, 2), 3);
        ShardGuard later = Check.loaded("workers 2 size 2; tenant 0 1; request 0 5;");
        later.pass(3);
        later.submit(0, 3, false);
        later.submit(0, 9, false);
        Check.equal("the least rest", later.request(2, 6), 0);
        // A worker that is down has no load, and is not taken; nor is one outside of the shard.
        ShardGuard down = Check.loaded("workers 4 size 3; tenant 0 1 2; request 0 9; request 0 9; request 0 9;");
        down.kill(0);
        down.submit(0, 1, false);
        Check.equal("not the one that is down", down.request(3, 6), 2);
        Check.equal("the other one", down.worker(3, 2), 0);
    }

    private static void routeStartsAnew() {
        Check.says("To route a request: its rest becomes its cost");
        ShardGuard guard = Check.loaded("workers 2 size 2; tenant 0 1; request 0 9;");
        guard.pass(8);
        guard.kill(0);
        Check.equal("routed to another worker", Check.formatted(guard, 1), "w1 up 0:9");
        guard.pass(2);
        guard.kill(1);
        Check.equal("parked", guard.request(0, 4) * 10 + guard.request(0, 2), 19);
        // Its worker is as if it had no load of this one: the rest is that of the others.
        ShardGuard loads = Check.loaded("workers 3 size 3; tenant 0 1 2; request 0 6; request 0 5; request 0 4;");
        loads.pass(3);
        loads.kill(0);
        Check.equal("to the least rest", loads.request(0, 6), 2);
    }

    private static void parkedBehind() {
        Check.says("otherwise it is parked, behind the other parked ones");
        ShardGuard guard = Check.loaded("workers 3 size 1; tenant 0; tenant 1; request 0 1; request 1 2; request 0 3;");
        guard.kill(1);
        guard.kill(0);
        guard.submit(1, 4, false);
        int[] due = {1, 0, 2, 3};
        for (int place = 0; place < due.length; place++) {
            Check.equal("parked(" + place + ")", guard.parked(place), due[place]);
        }
        Check.equal("one parked", guard.request(3, 4), 1);
        Check.equal("in no queue", guard.request(3, 6), ShardGuard.NONE);
        Check.equal("worker 2 is not in the shards", guard.worker(2, 2), 0);
    }

    private static void overlap() {
        Check.says("The overlap of two tenants is the number of workers that are in both shards.");
        ShardGuard guard = Check.loaded("workers 12 size 4; tenant 0 1 2 3; tenant 3 2 1 0; tenant 11 2 1 0;"
            + "tenant 11 10 9 0; tenant 8 9 10 11;");
        int[] due = {4, 4, 3, 1, 0};
        for (int other = 0; other < 5; other++) {
            Check.equal("overlap(0, " + other + ")", guard.overlap(0, other), due[other]);
            Check.equal("overlap(" + other + ", 0)", guard.overlap(other, 0), due[other]);
        }
    }

    private static void covers() {
        Check.says("A tenant covers another one if all workers of the shard of the other one are in its shard.");
        ShardGuard guard = Check.loaded("workers 5 size 4; tenant 0 1 2 3; tenant 3 2 1 0; tenant 4 1 2 3;");
        Check.equal("all four", guard.covered(0), 1);
        Check.equal("three of four", guard.covered(2), 0);
        guard.move(2, 15);
        Check.equal("two others", guard.covered(0), 2);
    }

    private static void cutOff() {
        Check.says("A tenant is cut off if no worker of its shard is up.");
        ShardGuard guard = Check.loaded("workers 4 size 3; tenant 0 1 2; tenant 1 2 3;");
        guard.kill(0);
        guard.kill(1);
        Check.equal("one worker is up", guard.tenant(0, 8), 0);
        guard.kill(2);
        Check.equal("none is up", guard.tenant(0, 8), 1);
        Check.equal("worker 3 is up", guard.tenant(1, 8), 0);
        Check.equal("tenants that are cut off", guard.size(8), 1);
        guard.kill(3);
        Check.equal("tenants that are cut off", guard.size(8), 2);
    }

    private static void bestShardGreatest() {
        Check.says("whose greatest overlap with the shard of any other tenant is as small as possible");
        // {0, 1} has the least sum (2), but 5 = {0, 2} has 1 with each of the three others.
        ShardGuard guard = Check.loaded("workers 4 size 2; tenant 0 1; tenant 0 1; tenant 2 3; tenant 2 3;");
        Check.equal("1 with each before 2 with one", guard.bestShard(0), 5);
        // Its own shard does not count.
        ShardGuard own = Check.loaded("workers 2 size 1; tenant 0; tenant 1;");
        Check.equal("its own shard", own.bestShard(0), 1);
        Check.equal("its own shard", own.bestShard(1), 2);
        // The only set without an overlap has the greatest mask.
        ShardGuard last = Check.loaded("workers 12 size 4; tenant 0 1 2 3; tenant 4 5 6 7; tenant 0 1 2 3;");
        Check.equal("the last set", last.bestShard(0), 0xf00);
    }

    private static void bestShardSum() {
        Check.says("of several the one for which the sum of the overlaps with all other tenants is smallest");
        ShardGuard guard = Check.loaded("workers 3 size 1; tenant 0; tenant 0; tenant 0; tenant 1; tenant 1; tenant 2;");
        Check.equal("the greatest is 1 for each", guard.bestShard(0), 4);
        // Eleven others have the greatest sum.
        StringBuilder text = new StringBuilder("workers 5 size 4; tenant 0 1 2 3;");
        for (int i = 0; i < 10; i++) {
            text.append("tenant 0 1 2 3;");
        }
        text.append("tenant 4 1 2 3;");
        // {0, 1, 2, 4}: 3 with each; {1, 2, 3, 4}: 4 with one. So the greatest overlap is 3 at least.
        Check.equal("eleven others", Check.loaded(text.toString()).bestShard(0), 23);
    }

    private static void bestShardMask() {
        Check.says("of several the one with the least mask");
        ShardGuard guard = Check.loaded("workers 4 size 2; tenant 2 3; tenant 0 1;");
        Check.equal("of the only tenant's sets", Check.loaded("workers 4 size 2; tenant 2 3;").bestShard(0), 3);
        Check.equal("only 12 has no overlap", guard.bestShard(0), 12);
        ShardGuard same = Check.loaded("workers 3 size 1; tenant 2; tenant 0; tenant 1; tenant 2;");
        Check.equal("all the same", same.bestShard(0), 1);
        ShardGuard two = Check.loaded("workers 3 size 1; tenant 2; tenant 0;");
        Check.equal("of two sets", two.bestShard(0), 2);
    }

    private static void bestShardSizes() {
        Check.says("The best shard of a tenant is the set of workers of the right size");
        int[][] fleets = {{2, 1}, {2, 2}, {3, 3}, {4, 4}, {12, 1}, {12, 4}};
        for (int[] fleet : fleets) {
            StringBuilder text = new StringBuilder("workers " + fleet[0] + " size " + fleet[1] + "; tenant");
            for (int worker = 0; worker < fleet[1]; worker++) {
                text.append(' ').append(worker);
            }
            Check.equal(text.toString(), Check.loaded(text + ";").bestShard(0), (1 << fleet[1]) - 1);
        }
    }

    private static void drawModulo() {
        Check.says("x becomes (x * 1103515245 + 12345) modulo 2147483648 (not negative)");
        // By hand: 1 * 1103515245 + 12345 = 1103527590; 1103527590 / 65536 = 16838; 16838 modulo 12 is 2, modulo 2 is 0.
        Check.equal("seed 1 of 12 workers", Check.loaded("workers 12 size 1; tenant 0;").drawn(0, 1), 4);
        Check.equal("seed 1 of 2 workers", Check.loaded("workers 2 size 1; tenant 0;").drawn(0, 1), 1);
        // By hand: 2147483647 is -1 modulo 2147483648, so x becomes 2147483648 - 1103502900 = 1043980748,
        // and 1043980748 / 65536 = 15929, modulo 12 is 5.
        Check.equal("the greatest seed", Check.loaded("workers 12 size 1; tenant 0;").drawn(0, 2147483647), 32);
        // By hand: 2 * 1103515245 + 12345 = 2207042835, less 2147483648 is 59559187; / 65536 = 908, modulo 12 is 8.
        Check.equal("a seed with a wrap", Check.loaded("workers 12 size 1; tenant 0;").drawn(0, 2), 256);
        // By hand: seed 0: 12345 / 65536 = 0.
        Check.equal("seed 0", Check.loaded("workers 12 size 1; tenant 5;").drawn(0, 0), 1);
        for (int seed = 0; seed < 1 << 30; seed = seed * 3 + 1) {
            for (int other : new int[] {seed, Integer.MAX_VALUE - seed}) {
                ShardGuard guard = Check.loaded("workers 11 size 4; tenant 0 1 2 3; tenant 0 1 2 3;");
                int[] due = ShardTest.draw(11, 4, 2, other);
                Check.equal("drawn(0, " + other + ")", guard.drawn(0, other), due[0]);
                Check.equal("drawn(1, " + other + ")", guard.drawn(1, other), due[1]);
            }
        }
    }

    private static void drawPlace() {
        Check.says("the worker is the one at the place (x / 65536) modulo (number of workers not yet in this shard), "
            + "from 0, of the workers that are not yet in this shard, by ascending numbers");
        // By hand, seed 1: 16838 modulo 12 is 2; x = 1103527590 becomes 377401575, / 65536 = 5758, modulo 11 is 5:
        // of 0 1 3 4 5 6 .. the one at place 5 is 6.
        Check.equal("two of 12", Check.loaded("workers 12 size 2; tenant 0 1;").drawn(0, 1), 4 | 64);
        // When one worker is left, it is taken, whatever x is.
        for (int seed = 0; seed < 40; seed++) {
            Check.equal("4 of 4", Check.loaded("workers 4 size 4; tenant 3 2 1 0;").drawn(0, seed), 15);
            Check.equal("2 of 2", Check.loaded("workers 2 size 2; tenant 0 1;").drawn(0, seed), 3);
        }
        int all = 0;
        for (int seed = 0; seed < 60; seed++) {
            int due = ShardTest.draw(12, 1, 1, seed)[0];
            all |= due;
            Check.equal("1 of 12 by " + seed, Check.loaded("workers 12 size 1; tenant 0;").drawn(0, seed), due);
        }
        Check.equal("all workers were drawn, the first and the last, too", all, 4095);
    }

    private static void drawTenants() {
        Check.says("For each tenant, by ascending numbers, workers are drawn until its shard has the right size");
        ShardGuard guard = Check.loaded(twelveTenants());
        int[] due = ShardTest.draw(12, 1, 12, 99);
        guard.draw(99);
        for (int tenant = 0; tenant < 12; tenant++) {
            Check.equal("shard " + tenant, guard.tenant(tenant, 0), due[tenant]);
        }
        ShardGuard none = Check.loaded("workers 2 size 1;");
        Check.equal("no tenants", none.draw(99), 0);
    }
}
