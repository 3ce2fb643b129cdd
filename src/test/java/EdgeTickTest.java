/** The boundary cases that the document names in "A tick", and in the promises that let ticks pass. */
public final class EdgeTickTest {
    public static void main(String[] args) {
        timeFirst();
        startAgain();
        startTimeIsTold();
        parkedInOrder();
        parkedThatStay();
        parkedByAllDown();
        restBecomesZero();
        oneRequestOfEach();
        poisonKillsWorker();
        killedByNumbers();
        attemptMore();
        dropped();
        othersInOrder();
        allKilledAreDown();
        quarantineEnds();
        asManyAsLimit();
        limitByNumbers();
        greaterThanTimeMinusWindow();
        openOnly();
        quarantineEndTime();
        refusedAll();
        routedIsRefused();
        countedNoMore();
        pass();
        passBeyond();
        passCountsKills();
        mostKills();
        poisonKills();
        poisonKillsWithoutOthers();
        poisonKillsAsNow();
        poisonKillsFull();
        poisonHarm();
        doneBehind();
        aheadChangesNothing();
        Check.end();
    }

    private static void timeFirst() {
        Check.says("When a tick passes, the time becomes 1 greater, and this happens in this order");
        ShardGuard guard = Check.loaded("workers 2 size 1; tenant 0; tenant 1; request 0 1; request 1 1 poisoned;");
        guard.pass(1);
        Check.equal("the time", guard.size(4), 1);
        Check.equal("done at the new time", guard.request(0, 7), 1);
        Check.equal("to start by the new time", guard.worker(1, 1), 6);
    }

    private static void startAgain() {
        Check.says("Each worker that is down and whose time to start again has come is up.");
        ShardGuard guard = Check.loaded("workers 3 size 1; restart 3; tenant 0; request 0 2;");
        guard.kill(0);
        guard.pass(1);
        guard.kill(2);
        guard.pass(1);
        Check.equal("down at 2", guard.worker(0, 0), 0);
        Check.equal("its time", guard.worker(0, 1), 3);
        guard.pass(1);
        Check.equal("up at 3", guard.worker(0, 0), 1);
        Check.equal("it has no time", guard.worker(0, 1), ShardGuard.NONE);
        Check.equal("routed and worked on in this tick", Check.formatted(guard, 0), "w0 up 0:1");
        Check.equal("the other one is down at 3", guard.worker(2, 0), 0);
        guard.pass(1);
        Check.equal("the other one is up at 4", guard.worker(2, 0), 1);
    }

    private static void startTimeIsTold() {
        Check.says("times that are told already stay, and nothing else happens before the next tick");
        ShardGuard guard = Check.loaded("workers 2 size 1; restart 9; tenant 0; tenant 1; request 0 1 poisoned;");
        guard.pass(1);
        guard.set(0, 1);
        Check.equal("a worker's time", guard.worker(0, 1), 10);
        guard.pass(8);
        Check.equal("still down", guard.worker(0, 0), 0);
        guard.pass(1);
        Check.equal("killed at its old time, by the new restart", guard.worker(0, 1), 11);
        guard.set(2, 1);
        Check.equal("open before the tick", guard.tenant(0, 1), 0);
        guard.set(1, 0);
        Check.equal("not dropped before the tick", guard.request(0, 4), 1);
        guard.pass(1);
        Check.equal("dropped in the tick", guard.request(0, 7), 11);
        Check.equal("in quarantine in the tick", guard.tenant(0, 2), 61);
        guard.set(4, 1);
        Check.equal("a quarantine's end", guard.tenant(0, 2), 61);
    }

    private static void parkedInOrder() {
        Check.says("The parked requests are gone through in their order");
        ShardGuard guard = Check.loaded("workers 2 size 2; restart 2; tenant 0 1;");
        guard.kill(0);
        guard.kill(1);
        int[] costs = {5, 3, 1, 4, 9};
        for (int cost : costs) {
            guard.submit(0, cost, false);
        }
        guard.pass(1);
        Check.equal("all parked", guard.size(6), 5);
        guard.pass(1);
        // 5 to worker 0, 3, 1 to worker 1, 4 to worker 1 (load 4 of 5), 9 to worker 0; then each does one of its first.
        Check.equal("queue 0", Check.formatted(guard, 0), "w0 up 0:4 4:9");
        Check.equal("queue 1", Check.formatted(guard, 1), "w1 up 1:2 2:1 3:4");
    }

    private static void parkedThatStay() {
        Check.says("each one whose tenant's shard has a worker that is up is routed");
        ShardGuard guard = Check.loaded("workers 3 size 2; restart 2; tenant 0 1; tenant 1 2;");
        guard.kill(2);
        guard.set(0, 9);
        guard.kill(0);
        guard.kill(1);
        for (int request = 0; request < 6; request++) {
            guard.submit(request % 2, 2, false);
        }
        guard.pass(1);
        Check.equal("all parked", guard.size(6), 6);
        // At 2 worker 2 alone is up again, so tenant 1's requests leave from between the others.
        guard.pass(1);
        Check.equal("routed to worker 2", Check.formatted(guard, 2), "w2 up 1:1 3:2 5:2");
        Check.equal("those that stay keep their order", guard.parked(0) * 100 + guard.parked(1) * 10 + guard.parked(2), 24);
        Check.equal("no more", guard.size(6), 3);
    }

    private static void parkedByAllDown() {
        Check.says("if workers of its tenant's shard are up");
        ShardGuard guard = Check.loaded("workers 5 size 4; tenant 0 1 2 3; request 0 2;");
        for (int worker = 0; worker < 3; worker++) {
            guard.kill(worker);
        }
        Check.equal("one worker is up", guard.request(0, 6), 3);
        guard.kill(3);
        Check.equal("all workers of the shard are down", guard.request(0, 4), 1);
        guard.submit(0, 1, false);
        Check.equal("parked at once", guard.request(1, 4), 1);
        Check.equal("the worker outside", guard.worker(4, 2), 0);
    }

    private static void restBecomesZero() {
        Check.says("If the rest is 0 then, a request that is not poisoned is done and leaves the queue.");
        ShardGuard guard = Check.loaded("workers 2 size 1; tenant 0; request 0 1; request 0 2;");
        guard.pass(1);
        Check.equal("done", guard.request(0, 4) * 100 + guard.request(0, 2) * 10 + guard.request(0, 7), 201);
        Check.equal("the queue", Check.formatted(guard, 0), "w0 up 1:2");
        guard.pass(1);
        Check.equal("a rest of 1 is not done", guard.request(1, 4) * 10 + guard.request(1, 2), 1);
        guard.pass(1);
        Check.equal("done", guard.request(1, 7), 3);
        Check.equal("the queue is empty", guard.worker(0, 2), 0);
    }

    private static void oneRequestOfEach() {
        Check.says("the rest of its first request becomes 1 less");
        ShardGuard guard = Check.loaded("workers 12 size 1; tenant 0; tenant 11; tenant 5; request 1 3; request 0 3;"
            + "request 1 3; request 0 3;");
        guard.pass(1);
        Check.equal("the first ones", guard.request(0, 2) * 10 + guard.request(1, 2), 22);
        Check.equal("the second ones", guard.request(2, 2) * 10 + guard.request(3, 2), 33);
        // What the worker did not begin is not worked on when the first one ends.
        guard.pass(2);
        Check.equal("the second ones", guard.request(2, 2) * 10 + guard.request(3, 2), 33);
    }

    private static void poisonKillsWorker() {
        Check.says("One that is poisoned kills the worker: the worker is down, and its time to start again is the time "
            + "plus the restart.");
        ShardGuard guard = Check.loaded("workers 2 size 1; restart 7; tenant 1; request 0 2 poisoned;");
        Check.equal("no kill at a rest of 1", guard.pass(1), 0);
        Check.equal("up", guard.worker(1, 0), 1);
        Check.equal("a kill at a rest of 0", guard.pass(1), 1);
        Check.equal("down", guard.worker(1, 0), 0);
        Check.equal("its time", guard.worker(1, 1), 9);
        Check.equal("not done", guard.tenant(0, 4), 0);
    }

    private static void killedByNumbers() {
        Check.says("For each worker that was killed in this tick, by ascending numbers: the poisoned request has one "
            + "attempt more.");
        // Request 0 kills worker 1, request 1 kills worker 0; worker 0's queue is routed first.
        ShardGuard guard = Check.loaded("workers 3 size 2; tenant 1 2; tenant 0 2; request 0 1 poisoned;"
            + "request 1 1 poisoned; request 1 9; request 0 3; request 1 2;");
        Check.equal("queue 0", Check.formatted(guard, 0), "w0 up 1!:1 4:2");
        Check.equal("queue 1", Check.formatted(guard, 1), "w1 up 0!:1 3:3");
        Check.equal("kills", guard.pass(1), 2);
        Check.equal("queue 2", Check.formatted(guard, 2), "w2 up 2:8 1!:1 4:2 0!:1 3:3");
        for (int request = 0; request < 5; request++) {
            Check.equal("attempts of request " + request, guard.request(request, 5), request < 2 ? 1 : 0);
        }
    }

    private static void attemptMore() {
        Check.says("If its attempts are more than the retries, it is dropped, otherwise it is routed.");
        ShardGuard guard = Check.loaded("workers 4 size 4; retries 2; limit 9; tenant 0 1 2 3; request 0 1 poisoned;");
        guard.pass(2);
        Check.equal("as many attempts as retries: routed", guard.request(0, 5) * 10 + guard.request(0, 6), 22);
        guard.pass(1);
        Check.equal("one more: dropped", guard.request(0, 5) * 10 + guard.request(0, 4), 33);
        Check.equal("not on worker 3", guard.worker(3, 2), 0);
        // The retries that count are those at the tick.
        ShardGuard fewer = Check.loaded("workers 4 size 4; retries 5; limit 9; tenant 0 1 2 3; request 0 1 poisoned;");
        fewer.pass(2);
        fewer.set(1, 0);
        fewer.pass(1);
        Check.equal("three attempts, no retries", fewer.request(0, 5) * 10 + fewer.request(0, 4), 33);
        ShardGuard more = Check.loaded("workers 4 size 4; retries 0; limit 9; tenant 0 1 2 3; request 0 1 poisoned;");
        more.set(1, 1);
        more.pass(1);
        Check.equal("one attempt, one retry", more.request(0, 5) * 10 + more.request(0, 4), 10);
    }

    private static void dropped() {
        Check.says("rest (0 if it is done or dropped; of a refused one as it was then)");
        ShardGuard guard = Check.loaded("workers 3 size 1; retries 0; limit 2; tenant 0; tenant 1; request 0 3 poisoned;"
            + "request 0 4; request 1 5; request 1 1;");
        guard.pass(3);
        Check.equal("of a dropped one", guard.request(0, 4) * 10 + guard.request(0, 2), 30);
        guard.pass(2);
        Check.equal("of a done one", guard.request(2, 4) * 10 + guard.request(2, 2), 20);
        // Tenant 1 comes into quarantine: request 4 is at work, 5 not begun, 6 parked.
        ShardGuard half = Check.loaded("workers 4 size 2; limit 1; retries 0; tenant 0 1; tenant 2 3;"
            + "request 0 9; request 0 2 poisoned; request 0 6; request 1 20;");
        half.pass(2);
        Check.equal("of one at work", half.request(0, 4) * 10 + half.request(0, 2), 47);
        Check.equal("of the killer", half.request(1, 4) * 10 + half.request(1, 2), 30);
        Check.equal("of one that was routed anew", half.request(2, 4) * 10 + half.request(2, 2), 46);
        Check.equal("of another tenant's", half.request(3, 4) * 100 + half.request(3, 2), 18);
    }

    private static void othersInOrder() {
        Check.says("Then the other requests of the worker's queue are routed, in their order.");
        ShardGuard guard = Check.loaded("workers 3 size 3; retries 0; tenant 0 1 2; request 0 1 poisoned; request 0 8;"
            + "request 0 8; request 0 6; request 0 2; request 0 1; request 0 1;");
        Check.equal("queue 0", Check.formatted(guard, 0), "w0 up 0!:1 3:6 4:2");
        Check.equal("queue 1", Check.formatted(guard, 1), "w1 up 1:8 5:1");
        Check.equal("queue 2", Check.formatted(guard, 2), "w2 up 2:8 6:1");
        guard.pass(1);
        // Loads 8 and 8: request 3 to worker 1 (then 14), request 4 to worker 2.
        Check.equal("queue 1 then", Check.formatted(guard, 1), "w1 up 1:7 5:1 3:6");
        Check.equal("queue 2 then", Check.formatted(guard, 2), "w2 up 2:7 6:1 4:2");
        Check.equal("the poisoned one is dropped", guard.request(0, 4), 3);
        // A poisoned request that is routed goes before the others.
        ShardGuard first = Check.loaded("workers 2 size 2; tenant 0 1; request 0 1 poisoned; request 0 3; request 0 1;");
        first.pass(1);
        Check.equal("the poisoned one first", Check.formatted(first, 1), "w1 up 1:2 0!:1 2:1");
    }

    private static void allKilledAreDown() {
        Check.says("(All workers that were killed in this tick are down in this.)");
        ShardGuard guard = Check.loaded("workers 3 size 2; tenant 0 1; tenant 1 2; request 0 1 poisoned; request 0 1 poisoned;"
            + "request 0 4; request 1 9;");
        guard.pass(1);
        Check.equal("all parked, by the workers' numbers", guard.parked(0) * 100 + guard.parked(1) * 10 + guard.parked(2), 21);
        Check.equal("no more", guard.size(6), 3);
        Check.equal("not on worker 1, which is routed later", guard.worker(1, 2), 0);
    }

    private static void quarantineEnds() {
        Check.says("For each tenant in quarantine whose quarantine ends at this time: it is open.");
        ShardGuard guard = Check.loaded("workers 2 size 1; limit 1; quarantine 4; retries 0; tenant 0; tenant 1;"
            + "request 0 1 poisoned; request 1 2 poisoned;");
        guard.pass(2);
        Check.equal("the ends", guard.tenant(0, 2) * 10 + guard.tenant(1, 2), 56);
        guard.pass(2);
        Check.equal("both in quarantine at 4", guard.size(9), 2);
        Check.equal("refused at 4", guard.request(guard.submit(0, 1, false), 4), 4);
        guard.pass(1);
        Check.equal("open at 5", guard.tenant(0, 1), 0);
        Check.equal("no end", guard.tenant(0, 2), ShardGuard.NONE);
        Check.equal("the other one is not", guard.tenant(1, 1), 1);
        Check.equal("parked at 5", guard.request(guard.submit(0, 1, false), 4), 1);
        Check.equal("refused at 5", guard.request(guard.submit(1, 1, false), 4), 4);
        guard.pass(1);
        Check.equal("both open at 6", guard.size(9), 0);
    }

    private static void asManyAsLimit() {
        Check.says("if at least as many kills as the limit were made by its requests");
        ShardGuard guard = Check.loaded("workers 3 size 3; limit 3; retries 5; restart 9; tenant 0 1 2; request 0 1 poisoned;");
        guard.pass(2);
        Check.equal("one fewer", guard.tenant(0, 7) * 10 + guard.tenant(0, 1), 20);
        guard.pass(1);
        Check.equal("as many", guard.tenant(0, 6) * 10 + guard.tenant(0, 1), 31);
        // More than the limit at once, and other tenants' kills do not count.
        ShardGuard more = Check.loaded("workers 4 size 4; limit 2; tenant 0 1 2 3; tenant 3 2 1 0; request 0 1 poisoned;"
            + "request 0 1 poisoned; request 0 1 poisoned; request 1 1 poisoned;");
        Check.equal("four kills", more.pass(1), 4);
        Check.equal("three of them", more.tenant(0, 2), 51);
        Check.equal("one of them", more.tenant(1, 1), 0);
        Check.equal("one is counted", more.tenant(1, 7), 1);
    }

    private static void limitByNumbers() {
        Check.says("For each open tenant, by ascending numbers");
        ShardGuard guard = Check.loaded("workers 3 size 1; limit 1; quarantine 6; tenant 0; tenant 1; tenant 2;"
            + "request 2 1 poisoned; request 0 1 poisoned; request 1 3;");
        guard.pass(1);
        Check.equal("both in one tick", guard.tenant(0, 2) * 10 + guard.tenant(2, 2), 77);
        Check.equal("the one between is open", guard.tenant(1, 1), 0);
    }

    private static void greaterThanTimeMinusWindow() {
        Check.says("at times greater than the time minus the window");
        for (int restart = 1; restart <= 6; restart++) {
            for (int window = 1; window <= 8; window++) {
                ShardGuard guard = Check.loaded("workers 2 size 1; limit 2; retries 1; restart " + restart + "; window "
                    + window + "; tenant 0; request 0 1 poisoned;");
                // Kills at 1 and at 1 + restart: the first one counts then if 1 > 1 + restart - window.
                guard.pass(1 + restart);
                Check.equal("kills", guard.size(7), 2);
                Check.equal("restart " + restart + ", window " + window, guard.tenant(0, 1), window > restart ? 1 : 0);
                Check.equal("counted", guard.tenant(0, 7), window > restart ? 0 : 1);
            }
        }
    }

    private static void openOnly() {
        Check.says("A tenant has a shard, a set of as many workers as the size of a shard, and is open or in quarantine");
        ShardGuard guard = Check.loaded("workers 2 size 1; limit 1; quarantine 9; tenant 0; request 0 1 poisoned;");
        guard.pass(1);
        for (int tick = 2; tick <= 9; tick++) {
            guard.pass(1);
            Check.equal("its end at " + tick, guard.tenant(0, 2), 10);
        }
        guard.pass(1);
        Check.equal("not again behind its end", guard.tenant(0, 2), ShardGuard.NONE);
        guard.pass(1);
        Check.equal("nor later", guard.tenant(0, 2), ShardGuard.NONE);
    }

    private static void quarantineEndTime() {
        Check.says("its quarantine ends at the time plus the quarantine");
        ShardGuard guard = Check.loaded("workers 2 size 1; limit 1; quarantine 9; tenant 0; request 0 4 poisoned;");
        guard.pass(3);
        guard.set(4, 5);
        guard.pass(1);
        Check.equal("by the quarantine at that tick", guard.tenant(0, 2), 9);
    }

    private static void refusedAll() {
        Check.says("all its requests that are queued or parked are refused and leave their queues");
        ShardGuard guard = Check.loaded("workers 5 size 2; limit 1; retries 5; restart 20; tenant 0 1; tenant 1 2; tenant 3 4;"
            + "request 0 3 poisoned; request 1 9; request 0 7; request 1 8; request 0 2; request 1 5;");
        guard.submit(2, 4, false);
        guard.move(0, 24);
        guard.kill(3);
        guard.kill(4);
        guard.submit(0, 6, false);
        guard.submit(2, 6, false);
        guard.submit(0, 1, true);
        guard.pass(3);
        Check.equal("in quarantine", guard.tenant(0, 2), 53);
        Check.equal("all of them", guard.tenant(0, 5), 5);
        for (int request : new int[] {0, 2, 4, 7, 9}) {
            Check.equal("its state", guard.request(request, 4), 4);
            Check.equal("in no queue", guard.request(request, 6), ShardGuard.NONE);
            Check.equal("its time", guard.request(request, 7), 3);
        }
        Check.equal("parked ones of others move up", guard.parked(0) * 10 + guard.parked(1), 68);
        Check.equal("no more", guard.size(6), 2);
        Check.equal("all others wait", guard.worker(1, 2) + guard.worker(2, 2), 3);
        Check.equal("no others are refused", guard.tenant(1, 5) + guard.tenant(2, 5), 0);
    }

    private static void routedIsRefused() {
        Check.says("What step 4 routed is refused, too.");
        ShardGuard guard = Check.loaded("workers 2 size 2; limit 1; retries 5; tenant 0 1; tenant 1 0; request 0 2 poisoned;"
            + "request 1 9; request 0 8; request 1 3;");
        Check.equal("queue 0", Check.formatted(guard, 0), "w0 up 0!:2 2:8");
        Check.equal("queue 1", Check.formatted(guard, 1), "w1 up 1:9 3:3");
        guard.pass(2);
        Check.equal("the killer", guard.request(0, 4) * 10 + guard.request(0, 5), 41);
        Check.equal("its rest since it was routed", guard.request(0, 2), 2);
        Check.equal("the one behind it", guard.request(2, 4), 4);
        Check.equal("the others", Check.formatted(guard, 1), "w1 up 1:7 3:3");
        // A killer that is dropped in step 4 stays dropped.
        ShardGuard end = Check.loaded("workers 2 size 2; limit 1; retries 0; tenant 0 1; request 0 1 poisoned;");
        end.pass(1);
        Check.equal("dropped", end.request(0, 4) * 10 + end.tenant(0, 5), 30);
    }

    private static void countedNoMore() {
        Check.says("kills that its requests have made so far are not counted in this step any more (also behind release)");
        String text = "workers 3 size 1; limit 2; restart 1; retries 5; window 99; quarantine 10; tenant 0; tenant 1;"
            + "request 0 1 poisoned; request 1 1 poisoned; request 1 3;";
        for (int released = 0; released < 2; released++) {
            ShardGuard guard = Check.loaded(text);
            guard.pass(2);
            Check.equal("both in quarantine", guard.size(9), 2);
            Check.equal("counted", guard.tenant(0, 7) * 10 + guard.tenant(0, 6), 2);
            if (released == 1) {
                guard.release(0);
            } else {
                guard.pass(10);
            }
            guard.set(2, 1);
            guard.pass(1);
            Check.equal("open, though the limit is 1", guard.tenant(0, 1), 0);
            guard.set(2, 2);
            guard.submit(0, 1, true);
            guard.pass(1);
            Check.equal("a new kill is one", guard.tenant(0, 7) * 10 + guard.tenant(0, 1), 10);
            guard.pass(1);
            Check.equal("two new kills", guard.tenant(0, 6) * 10 + guard.tenant(0, 1), 41);
        }
        // What the window left out when the quarantine began does not come back in a longer window either.
        ShardGuard longer = Check.loaded("workers 2 size 1; limit 2; restart 3; retries 5; window 3; tenant 0;"
            + "request 0 1 poisoned;");
        longer.pass(4);
        Check.equal("the kill at 1 is too old", longer.tenant(0, 7), 1);
        longer.set(0, 1);
        longer.pass(3);
        Check.equal("open behind a kill at 7", longer.tenant(0, 7) * 10 + longer.tenant(0, 1), 10);
        longer.pass(1);
        Check.equal("in quarantine by the kills at 7 and 8", longer.tenant(0, 6) * 100 + longer.tenant(0, 2), 458);
        longer.release(0);
        longer.set(3, 99);
        Check.equal("none is counted", longer.tenant(0, 7), 0);
        longer.pass(1);
        Check.equal("open", longer.tenant(0, 1), 0);
    }

    private static void pass() {
        Check.says("`ticks`: 1 to 100");
        Refused refused = new Refused(() -> Check.loaded("workers 2 size 1; tenant 0; request 0 9;"));
        for (int ticks : new int[] {0, -1, 101, Integer.MIN_VALUE, Integer.MAX_VALUE}) {
            refused.illegal("pass(" + ticks + ")", guard -> guard.pass(ticks));
        }
        ShardGuard guard = new ShardGuard();
        guard.pass(1);
        Check.equal("1 tick", guard.size(4), 1);
        guard.pass(100);
        Check.equal("100 ticks", guard.size(4), 101);
    }

    /** An object at a time near the last one, with a request that a tick would work on. */
    private static ShardGuard late(int time) {
        ShardGuard guard = Check.loaded("workers 2 size 1; tenant 0;");
        while (guard.size(4) < time) {
            guard.pass(Math.min(100, time - guard.size(4)));
        }
        guard.submit(0, 20, true);
        return guard;
    }

    private static void passBeyond() {
        Check.says("Returns the kills that were made in them; -2 if the time would exceed 9999.");
        Refused refused = new Refused(() -> late(9950));
        refused.answers("pass(50) at 9950", guard -> guard.pass(50), -2);
        refused.answers("pass(100) at 9950", guard -> guard.pass(100), -2);
        refused.illegal("pass(101) at 9950", guard -> guard.pass(101));
        ShardGuard guard = late(9950);
        Check.equal("pass(49) at 9950", guard.pass(49), 2);
        Check.equal("the last time", guard.size(4), 9999);
        Check.equal("pass(1) at 9999", guard.pass(1), -2);
        Check.illegal("pass(0) at 9999", () -> guard.pass(0));
        Check.equal("the time stays", guard.size(4), 9999);
        Check.equal("what looks ahead goes on", guard.doneBehind(200), 0);
        guard.submit(0, 1, false);
        Check.equal("a request at the last time", guard.request(1, 4), 0);
    }

    private static void passCountsKills() {
        Check.says("Returns the kills that were made in them");
        ShardGuard guard = Check.loaded("workers 2 size 1; restart 1; retries 5; limit 9; tenant 0; tenant 1;"
            + "request 0 1 poisoned; request 1 1 poisoned;");
        Check.equal("two a tick", guard.pass(1), 2);
        Check.equal("those of these ticks alone", guard.pass(2), 4);
        guard.kill(0);
        Check.equal("a worker that was taken down is no kill, but starts again", guard.pass(1), 2);
        Check.equal("the rest", guard.pass(100), 4);
        Check.equal("none", guard.pass(100), 0);
    }

    private static void mostKills() {
        Check.says("If its attempts are more than the retries, it is dropped, otherwise it is routed.");
        // 60 requests that kill six times each are the most kills that there can be.
        ShardGuard guard = Check.loaded("workers 2 size 1; restart 1; retries 5; limit 9; window 1; tenant 0; tenant 1;");
        for (int i = 0; i < 60; i++) {
            guard.submit(i % 2, 1, true);
        }
        Check.equal("two a tick", guard.pass(100), 200);
        Check.equal("two a tick", guard.pass(79), 158);
        Check.equal("the last two", guard.pass(1), 2);
        Check.equal("all", guard.size(7), 360);
        Check.equal("the last of each tenant is counted", guard.tenant(0, 7) * 10 + guard.tenant(1, 7), 11);
        Check.equal("of each tenant", guard.tenant(0, 6) * 1000 + guard.killsOf(1, 1), 180180);
        Check.equal("no more", guard.pass(100), 0);
    }

    private static void poisonKills() {
        Check.says("if it was routed now and 200 ticks passed");
        // With restart 50, four kills on one worker come at 1, 51, 101 and 151; the fifth would at 201.
        ShardGuard guard = Check.loaded("workers 2 size 1; restart 50; retries 5; limit 9; tenant 0;");
        Check.equal("kills", guard.poisonKills(0), 4);
        // A worker that starts at 50 is killed at 50, 100, 150 and, just within the ticks, at 200.
        guard.kill(0);
        Check.equal("the last kill in tick 200", guard.poisonKills(0), 4);
        Refused refused = new Refused(() -> Check.loaded("workers 2 size 1; tenant 0; request 0 2;"));
        for (int tenant : new int[] {-1, 1, 12, 32, Integer.MIN_VALUE, Integer.MAX_VALUE}) {
            refused.noSuch("poisonKills(" + tenant + ")", other -> other.poisonKills(tenant));
            refused.noSuch("poisonHarm(" + tenant + ")", other -> other.poisonHarm(tenant));
        }
    }

    private static void poisonKillsWithoutOthers() {
        Check.says("no other requests of any tenant were there (the queues and the parked requests are empty; all tenants "
            + "are open, no kills were made before, and workers are up or down as they are now)");
        // The other requests would come first in the only queue, and would bring the tenant into quarantine.
        ShardGuard guard = Check.loaded("workers 2 size 1; restart 20; retries 1; limit 2; window 99; tenant 0; tenant 0;"
            + "tenant 1; request 0 20; request 1 20; request 0 20 poisoned; request 0 20; request 1 20; request 0 20;");
        Check.equal("one kill with each retry", guard.poisonKills(0), 2);
        guard.pass(60);
        Check.equal("a kill was made", guard.tenant(0, 7), 1);
        Check.equal("no kills were made before", guard.poisonKills(0), 2);
        guard.pass(60);
        guard.kill(0);
        guard.set(2, 1);
        guard.submit(2, 1, true);
        guard.pass(1);
        Check.equal("in quarantine", guard.tenant(2, 1), 1);
        Check.equal("all tenants are open", guard.poisonKills(2), 1);
        // Parked requests are not there either.
        ShardGuard parked = Check.loaded("workers 2 size 1; retries 0; tenant 0; tenant 0;");
        parked.kill(0);
        for (int i = 0; i < 59; i++) {
            parked.submit(i % 2, 20, true);
        }
        Check.equal("parked requests are not there", parked.poisonKills(0), 1);
    }

    private static void poisonKillsAsNow() {
        Check.says("quarantines are as in all ticks");
        ShardGuard guard = Check.loaded("workers 4 size 4; restart 1; retries 5; limit 3; window 20; tenant 0 1 2 3;");
        Check.equal("the quarantine ends it", guard.poisonKills(0), 3);
        guard.set(2, 9);
        Check.equal("the retries end it", guard.poisonKills(0), 6);
        // With a window of 2 the kills of two ticks count at most.
        guard.set(2, 3);
        guard.set(3, 2);
        Check.equal("the window is too short", guard.poisonKills(0), 6);
        guard.set(3, 3);
        Check.equal("the window is long enough", guard.poisonKills(0), 3);
    }

    private static void poisonKillsFull() {
        Check.says("that there are 60 requests does not matter in this");
        ShardGuard guard = Check.loaded("workers 2 size 1; retries 1; tenant 0; tenant 1;");
        for (int i = 0; i < 60; i++) {
            guard.submit(0, 20, i % 2 == 0);
        }
        Check.equal("the 61st", guard.submit(0, 1, true), -3);
        Check.equal("kills of another one", guard.poisonKills(0), 2);
        Check.equal("harm of another one", guard.poisonHarm(0), 0);
        Check.equal("none was made", guard.size(3), 60);
    }

    private static void poisonHarm() {
        Check.says("Returns the number of other tenants that would be cut off behind at least one of these ticks (as in "
            + "poisonKills), whatever the reason.");
        ShardGuard alone = Check.loaded("workers 2 size 1; tenant 0;");
        Check.equal("no other tenants", alone.poisonHarm(0), 0);
        ShardGuard eleven = new ShardGuard();
        StringBuilder text = new StringBuilder("workers 2 size 1;");
        for (int i = 0; i < 12; i++) {
            text.append("tenant 1;");
        }
        Check.load(eleven, text.toString());
        Check.equal("all eleven others", eleven.poisonHarm(11), 11);
        // Two workers: both are down together behind the second kill only if the first one is still down.
        ShardGuard two = Check.loaded("workers 3 size 2; restart 1; limit 9; tenant 0 1; tenant 0 1; tenant 1 2;");
        Check.equal("never both", two.poisonHarm(0), 0);
        two.set(0, 2);
        Check.equal("both behind tick 2", two.poisonHarm(0), 1);
        // Cut off now, but not behind the first tick; and cut off by a worker that was taken down.
        ShardGuard down = Check.loaded("workers 3 size 1; restart 2; tenant 0; tenant 1; tenant 2;");
        down.kill(1);
        Check.equal("down behind one tick", down.poisonHarm(0), 1);
        down.pass(1);
        Check.equal("now, but behind no tick", down.tenant(1, 8) * 10 + down.poisonHarm(0), 10);
        Check.equal("itself does not count", down.poisonHarm(1), 0);
    }

    private static void doneBehind() {
        Check.says("`ticks`: 0 to 200");
        Refused refused = new Refused(() -> Check.loaded("workers 2 size 1; tenant 0; request 0 2;"));
        for (int ticks : new int[] {-1, 201, Integer.MIN_VALUE, Integer.MAX_VALUE}) {
            refused.illegal("doneBehind(" + ticks + ")", guard -> guard.doneBehind(ticks));
        }
        ShardGuard guard = Check.loaded("workers 2 size 1; tenant 0;");
        for (int i = 0; i < 10; i++) {
            guard.submit(0, 20, false);
        }
        Check.equal("the last one in tick 200", guard.doneBehind(199) * 100 + guard.doneBehind(200), 910);
        Check.equal("behind no tick", guard.doneBehind(0), 0);
        guard.pass(20);
        Check.says("(those that are done already count)");
        Check.equal("behind no tick, with one done", guard.doneBehind(0), 1);
        Check.equal("with one done and one more", guard.doneBehind(20), 2);
        Check.equal("without requests", new ShardGuard().doneBehind(200), 0);
    }

    private static void aheadChangesNothing() {
        Check.says("Every successful call of an operation is recorded");
        Refused looks = new Refused(EdgeTickTest::manyThings);
        looks.answers("poisonKills", guard -> guard.poisonKills(1), 3);
        looks.answers("poisonHarm", guard -> guard.poisonHarm(1), 1);
        looks.answers("doneBehind", guard -> guard.doneBehind(200), 4);
        looks.answers("drawn", guard -> guard.drawn(0, 0), 1);
        looks.answers("bestSeed", guard -> guard.bestSeed(), 1);
        looks.answers("bestShard", guard -> guard.bestShard(0), 1);
    }

    private static ShardGuard manyThings() {
        ShardGuard guard = Check.loaded("workers 3 size 1; limit 3; tenant 0; tenant 1; tenant 1; request 0 9; request 1 5;"
            + "request 0 1 poisoned; request 2 4; request 2 6;");
        guard.pass(2);
        guard.saveSnapshot();
        guard.kill(1);
        guard.format(0);
        return guard;
    }
}
