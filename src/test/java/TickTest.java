/** The steps of a tick, and promises 20 to 22 and 24 to 26: what ticks bring, and submit and pass. */
public final class TickTest {
    public static void main(String[] args) {
        routing();
        killedInOneTick();
        startingAgain();
        parkedOnes();
        attempts();
        quarantine();
        quarantineEnds();
        windowAndLimit();
        poisonKills();
        poisonHarm();
        doneBehind();
        served();
        submit();
        submitTooMany();
        pass();
        Check.end();
    }

    private static void routing() {
        ShardGuard guard = Check.loaded("workers 4 size 3; tenant 1 2 3;");
        Check.equal("submit", guard.submit(0, 4, false), 0);
        guard.submit(0, 2, false);
        guard.submit(0, 3, false);
        guard.submit(0, 1, false);
        Check.equal("the least load", Check.formatted(guard, 2), "w2 up 1:2 3:1");
        guard.submit(0, 1, false);
        Check.equal("the lowest of several", Check.formatted(guard, 2), "w2 up 1:2 3:1 4:1");
        Check.equal("not in the shard", Check.formatted(guard, 0), "w0 up");
        guard.pass(1);
        // What is done at a tick no longer counts for the load, so worker 3 comes before worker 2.
        Check.equal("loads", guard.worker(1, 3) + " " + guard.worker(2, 3) + " " + guard.worker(3, 3), "3 3 2");
        guard.submit(0, 20, false);
        Check.equal("the least rest", guard.request(5, 6), 3);
        // A rerouted request starts again from its cost.
        guard.kill(3);
        Check.equal("routed again", Check.formatted(guard, 1), "w1 up 0:3 2:3");
        Check.equal("routed again", Check.formatted(guard, 2), "w2 up 1:1 3:1 4:1 5:20");
    }

    private static void killedInOneTick() {
        // Both poisoned requests kill in tick 1; all that flees goes to worker 2, by the killed workers' numbers.
        ShardGuard guard = Check.loaded("workers 3 size 3; tenant 0 1 2; tenant 2 1 0;"
            + "request 0 1 poisoned; request 1 1 poisoned; request 0 9;"
            + "request 0 5; request 1 6;");
        Check.equal("before", Check.formatted(guard, 0), "w0 up 0!:1 3:5");
        Check.equal("before", Check.formatted(guard, 1), "w1 up 1!:1 4:6");
        Check.equal("kills", guard.pass(1), 2);
        Check.equal("worker 0", Check.formatted(guard, 0), "w0 down");
        Check.equal("worker 1", Check.formatted(guard, 1), "w1 down");
        Check.equal("worker 2", Check.formatted(guard, 2), "w2 up 2:8 0!:1 3:5 1!:1 4:6");
        Check.equal("attempts", guard.request(0, 5) + guard.request(1, 5), 2);
        Check.equal("attempts of the others", guard.request(3, 5), 0);
    }

    private static void startingAgain() {
        ShardGuard guard = Check.loaded("workers 2 size 1; restart 3; tenant 0; tenant 1; request 0 1 poisoned;");
        guard.pass(1);
        Check.equal("its time", guard.worker(0, 1), 4);
        guard.set(0, 9);
        Check.equal("a time that is told stays", guard.worker(0, 1), 4);
        guard.pass(2);
        Check.equal("still down", guard.worker(0, 0), 0);
        Check.equal("up, and killed at once in the same tick", guard.pass(1), 1);
        Check.equal("the next time by the new restart", guard.worker(0, 1), 13);
        guard.pass(8);
        Check.equal("still down", guard.worker(0, 0), 0);
        guard.pass(1);
        Check.equal("the third kill", guard.size(7), 3);
    }

    private static void parkedOnes() {
        ShardGuard guard = Check.loaded("workers 3 size 1; restart 2; tenant 0; tenant 1;"
            + "request 0 3; request 1 4; request 0 5; request 1 6;");
        guard.pass(1);
        guard.kill(1);
        guard.kill(0);
        Check.equal("parked", parked(guard), "1 3 0 2");
        Check.equal("rest starts anew", guard.request(0, 2) + guard.request(1, 2), 7);
        guard.submit(1, 2, false);
        Check.equal("parked behind the others", parked(guard), "1 3 0 2 4");
        guard.move(0, 4);
        guard.pass(1);
        Check.equal("the others keep their order", parked(guard), "1 3 4");
        Check.equal("routed and worked on at once", Check.formatted(guard, 2), "w2 up 0:2 2:5");
        guard.pass(1);
        Check.equal("none is left", parked(guard), "");
        Check.equal("in their order", Check.formatted(guard, 1), "w1 up 1:3 3:6 4:2");
        Check.equal("parked ones have no end", guard.request(3, 7), ShardGuard.NONE);
    }

    private static String parked(ShardGuard guard) {
        StringBuilder text = new StringBuilder();
        for (int place = 0; place < guard.size(6); place++) {
            text.append(place == 0 ? "" : " ").append(guard.parked(place));
        }
        return text.toString();
    }

    private static void attempts() {
        for (int retries = 0; retries <= 5; retries++) {
            ShardGuard guard = Check.loaded("workers 2 size 1; restart 1; limit 9; retries " + retries + "; tenant 0; request 0 1 poisoned;");
            Check.equal("kills with retries " + retries, guard.pass(30), retries + 1);
            Check.equal("dropped", guard.request(0, 4), 3);
            Check.equal("attempts", guard.request(0, 5), retries + 1);
            Check.equal("its rest", guard.request(0, 2), 0);
            Check.equal("its worker", guard.request(0, 6), ShardGuard.NONE);
            Check.equal("its time", guard.request(0, 7), retries + 1);
        }
        // Fewer retries count from the next kill on.
        ShardGuard guard = Check.loaded("workers 2 size 1; restart 1; limit 9; retries 5; tenant 0; request 0 1 poisoned;");
        guard.pass(3);
        guard.set(1, 0);
        Check.equal("still waiting", guard.request(0, 4), 1);
        guard.pass(1);
        Check.equal("dropped by the next kill", guard.request(0, 4) * 10 + guard.request(0, 5), 34);
        // A worker that is taken down makes no attempt.
        ShardGuard taken = Check.loaded("workers 2 size 1; retries 0; tenant 0; request 0 1 poisoned;");
        taken.kill(0);
        Check.equal("no attempt", taken.request(0, 5), 0);
        Check.equal("no kill", taken.size(7) + taken.worker(0, 4), 0);
    }

    private static void quarantine() {
        // In tick 2 tenant 0 reaches the limit: queued, parked and just routed requests are refused.
        ShardGuard guard = Check.loaded("workers 3 size 2; limit 2; restart 3; quarantine 7; tenant 0 1; tenant 1 2;"
            + "request 0 1 poisoned; request 0 2 poisoned; request 0 8; request 1 9;");
        Check.equal("kills", guard.pass(1), 1);
        Check.equal("open", guard.tenant(0, 1), 0);
        Check.equal("kills", guard.pass(1), 1);
        Check.equal("in quarantine", guard.tenant(0, 1), 1);
        Check.equal("its end", guard.tenant(0, 2), 9);
        Check.equal("refused", guard.tenant(0, 5), 3);
        for (int request = 0; request < 3; request++) {
            Check.equal("state", guard.request(request, 4), 4);
            Check.equal("worker", guard.request(request, 6), ShardGuard.NONE);
            Check.equal("time", guard.request(request, 7), 2);
            Check.equal("attempts", guard.request(request, 5), request < 2 ? 1 : 0);
        }
        Check.equal("none is parked", guard.size(6), 0);
        Check.equal("the other tenant's stays", guard.worker(2, 2), 1);
        Check.equal("queue 0", guard.worker(0, 2) + guard.worker(1, 2), 0);
        Check.equal("kills are counted no more", guard.tenant(0, 7), 0);
        Check.equal("but were made", guard.tenant(0, 6), 2);
        Check.equal("submit is refused", guard.submit(0, 3, false), 4);
        Check.equal("its state", guard.request(4, 4), 4);
        // Kills before the quarantine do not bring it back behind release.
        guard.release(0);
        guard.set(2, 1);
        guard.pass(3);
        Check.equal("open", guard.tenant(0, 1), 0);
        guard.submit(0, 1, true);
        guard.pass(1);
        Check.equal("a new kill does", guard.tenant(0, 2), 13);
    }

    private static void quarantineEnds() {
        ShardGuard guard = Check.loaded("workers 2 size 1; limit 1; quarantine 1; retries 0; restart 1; tenant 0;"
            + "request 0 1 poisoned;");
        guard.pass(1);
        Check.equal("in quarantine", guard.tenant(0, 2), 2);
        Check.equal("refuses", guard.request(guard.submit(0, 1, false), 4), 4);
        guard.pass(1);
        Check.equal("open", guard.tenant(0, 2), ShardGuard.NONE);
        Check.equal("accepts", guard.request(guard.submit(0, 1, false), 4), 0);
        guard.pass(1);
        Check.equal("done", guard.request(2, 4), 2);
        // The end stays as it was told when the setting changes.
        ShardGuard told = Check.loaded("workers 2 size 1; limit 1; quarantine 5; tenant 0; request 0 1 poisoned;");
        told.pass(1);
        told.set(4, 999);
        Check.equal("its end", told.tenant(0, 2), 6);
        told.pass(4);
        Check.equal("not yet", told.tenant(0, 1), 1);
        told.pass(1);
        Check.equal("now", told.tenant(0, 1), 0);
    }

    private static void windowAndLimit() {
        // Kills at 1 and 4: within a window of 4 at time 4, but not within one of 3.
        for (int window = 3; window <= 4; window++) {
            ShardGuard guard = Check.loaded("workers 2 size 1; restart 3; limit 2; window " + window
                + "; tenant 0; request 0 1 poisoned;");
            guard.pass(4);
            Check.equal("kills", guard.size(7), 2);
            Check.equal("quarantine with window " + window, guard.tenant(0, 1), window - 3);
        }
        // A lower limit and a longer window take effect at the next tick, not before.
        ShardGuard guard = Check.loaded("workers 2 size 1; restart 3; limit 9; window 1; retries 1; tenant 0;"
            + "request 0 1 poisoned;");
        guard.pass(10);
        guard.set(3, 99);
        guard.set(2, 2);
        Check.equal("not before the tick", guard.tenant(0, 1), 0);
        Check.equal("counted", guard.tenant(0, 7), 2);
        guard.pass(1);
        Check.equal("with the tick", guard.tenant(0, 2), 61);
    }

    private static void poisonKills() {
        for (int retries = 0; retries <= 5; retries++) {
            ShardGuard guard = Check.loaded("workers 2 size 1; limit 9; restart 40; retries " + retries
                + "; tenant 0;");
            // The kills come at 1, 41, 81, 121, 161 and 201.
            Check.equal("with retries " + retries, guard.poisonKills(0), Math.min(5, retries + 1));
            guard.set(0, 39);
            Check.equal("with restart 39", guard.poisonKills(0), retries + 1);
        }
        ShardGuard guard = Check.loaded("workers 3 size 1; limit 2; retries 5; restart 1; tenant 0; tenant 1;"
            + "request 0 5; request 0 1 poisoned;");
        Check.equal("the limit ends it", guard.poisonKills(0), 2);
        guard.set(3, 1);
        Check.equal("in a window of 1 it does not", guard.poisonKills(0), 6);
        guard.set(3, 20);
        guard.pass(7);
        // Tenant 0 has made kills and is in quarantine: both are as if they were not.
        Check.equal("in quarantine", guard.tenant(0, 1), 1);
        String before = Check.everything(guard);
        Check.equal("behind kills", guard.poisonKills(0), 2);
        guard.kill(1);
        Check.equal("a worker that is down starts again", guard.poisonKills(1), 2);
        guard.undo();
        Check.equal("nothing changes", Check.everything(guard), before);
        Check.noSuch("poisonKills(-1)", () -> guard.poisonKills(-1));
        Check.noSuch("poisonKills(2)", () -> guard.poisonKills(2));

        ShardGuard down = Check.loaded("workers 2 size 1; restart 50; limit 9; retries 5; tenant 0;");
        Check.equal("up", down.poisonKills(0), 4);
        down.kill(0);
        // It starts at 50; the kills come at 50, 100, 150 and 200.
        Check.equal("down", down.poisonKills(0), 4);
        down.pass(1);
        Check.equal("down since a tick", down.poisonKills(0), 4);
        down.pass(48);
        Check.equal("about to start", down.poisonKills(0), 4);

        // 60 requests and the last time do not matter.
        ShardGuard full = Check.loaded("workers 2 size 1; tenant 0;");
        for (int i = 0; i < 60; i++) {
            full.submit(0, 20, false);
        }
        for (int i = 0; i < 99; i++) {
            full.pass(100);
        }
        full.pass(99);
        Check.equal("the time", full.size(4), 9999);
        Check.equal("with 60 requests at 9999", full.poisonKills(0), 3);
    }

    private static void poisonHarm() {
        ShardGuard guard = Check.loaded("workers 4 size 1; restart 5; tenant 0; tenant 0; tenant 1; tenant 0;");
        Check.equal("tenants of the same worker", guard.poisonHarm(0), 2);
        Check.equal("a worker alone", guard.poisonHarm(2), 0);
        guard.kill(1);
        // Whatever the reason: worker 1 is down behind the first tick.
        Check.equal("a worker that is down", guard.poisonHarm(0), 3);
        Check.equal("its own tenant does not count", guard.poisonHarm(2), 0);
        guard.pass(4);
        // It is up again behind the first tick.
        Check.equal("a worker about to start", guard.poisonHarm(0), 2);
        Check.noSuch("poisonHarm(-1)", () -> guard.poisonHarm(-1));
        Check.noSuch("poisonHarm(4)", () -> guard.poisonHarm(4));

        // Both workers are down together only if the second kill comes before the first worker is up.
        ShardGuard both = Check.loaded("workers 3 size 2; restart 2; tenant 0 1; tenant 1 0; tenant 0 2;");
        Check.equal("both down", both.poisonHarm(0), 1);
        both.set(0, 1);
        Check.equal("one after the other", both.poisonHarm(0), 0);
        both.set(0, 2);
        both.set(2, 1);
        Check.equal("the quarantine comes before", both.poisonHarm(0), 0);
        Check.equal("nothing changes", both.size(3) + both.size(4) + both.size(7), 0);
    }

    private static void doneBehind() {
        ShardGuard guard = Check.loaded("workers 2 size 1; restart 5; retries 0; tenant 0; tenant 1;"
            + "request 0 2; request 0 3; request 1 1 poisoned; request 1 4; request 1 20;");
        int[] due = {0, 0, 1, 1, 1, 2, 2, 2, 2, 3};
        for (int ticks = 0; ticks < due.length; ticks++) {
            Check.equal("doneBehind(" + ticks + ")", guard.doneBehind(ticks), due[ticks]);
        }
        Check.equal("doneBehind(28)", guard.doneBehind(28), 3);
        Check.equal("doneBehind(29)", guard.doneBehind(29), 4);
        Check.equal("doneBehind(200)", guard.doneBehind(200), 4);
        Check.equal("nothing changes", guard.size(4) + guard.size(7), 0);
        guard.pass(5);
        Check.equal("those that are done count", guard.doneBehind(0), 2);
        Check.equal("and those that will be", guard.doneBehind(4), 3);
        Check.illegal("doneBehind(-1)", () -> guard.doneBehind(-1));
        Check.illegal("doneBehind(201)", () -> guard.doneBehind(201));
        for (int i = 0; i < 99; i++) {
            guard.pass(100);
        }
        guard.pass(90);
        guard.submit(0, 20, false);
        Check.equal("beyond the last time", guard.doneBehind(20), 5);
    }

    private static void served() {
        Check.equal("of none", new ShardGuard().served(), 0.0f);
        ShardGuard guard = Check.loaded("workers 2 size 1; tenant 0; tenant 1; request 0 1; request 1 2; request 1 9;");
        Check.equal("at first", guard.served(), 0.0f);
        guard.pass(1);
        Check.equal("one of three", guard.served(), 1.0f / 3.0f);
        guard.pass(1);
        Check.equal("two of three", guard.served(), 2.0f / 3.0f);
        guard.pass(9);
        Check.equal("all", guard.served(), 1.0f);
        guard.submit(0, 1, true);
        guard.pass(1);
        Check.equal("a killer is not done", guard.served(), 0.75f);
        ShardGuard one = Check.loaded("workers 2 size 1; tenant 0; request 0 1;");
        Check.equal("none of one", one.served(), 0.0f);
        one.pass(1);
        Check.equal("one of one", one.served(), 1.0f);
    }

    private static ShardGuard twoTenants() {
        return Check.loaded("workers 2 size 1; limit 1; tenant 0; tenant 1;");
    }

    private static void submit() {
        ShardGuard guard = twoTenants();
        Check.equal("submit(0, 1)", guard.submit(0, 1, true), 0);
        Check.equal("submit(1, 20)", guard.submit(1, 20, false), 1);
        Check.equal("undoCount", guard.undoCount(), 2);
        Check.equal("poisoned", guard.request(0, 3) * 10 + guard.request(1, 3), 10);
        guard.pass(1);
        Check.equal("in quarantine", guard.tenant(0, 1), 1);
        Check.equal("submit in quarantine", guard.submit(0, 9, false), 2);
        Check.equal("its state", guard.request(2, 4), 4);
        Check.equal("its rest", guard.request(2, 2), 9);
        Check.equal("its time", guard.request(2, 7), 1);
        Check.equal("its worker", guard.request(2, 6), ShardGuard.NONE);
        guard.undo();
        Check.equal("requests behind undo", guard.size(3), 2);
        guard.kill(1);
        Check.equal("submit to a worker that is down", guard.submit(1, 3, false), 2);
        Check.equal("parked", guard.request(2, 4), 1);
        Refused refused = new Refused(TickTest::twoTenants);
        refused.noSuch("submit(2, 1)", other -> other.submit(2, 1, false));
        refused.noSuch("submit(-1, 0)", other -> other.submit(-1, 0, false));
        refused.illegal("submit(0, 0)", other -> other.submit(0, 0, false));
        refused.illegal("submit(0, 21)", other -> other.submit(0, 21, true));
        refused.illegal("submit(0, -5)", other -> other.submit(0, -5, true));
    }

    /** Tenant 0 is in quarantine, and the worker of tenant 1 is down. */
    private static ShardGuard sixtyRequests() {
        ShardGuard guard = twoTenants();
        guard.submit(0, 1, true);
        guard.pass(1);
        guard.kill(1);
        for (int i = 1; i < 60; i++) {
            Check.equal("submit", guard.submit(i % 2, 5, false), i);
        }
        return guard;
    }

    private static void submitTooMany() {
        Refused refused = new Refused(TickTest::sixtyRequests);
        refused.answers("the 61st", other -> other.submit(1, 5, false), -3);
        refused.answers("the 61st in quarantine", other -> other.submit(0, 5, false), -3);
        refused.illegal("the exceptions first", other -> other.submit(0, 0, false));
        refused.noSuch("the exceptions first", other -> other.submit(2, 0, false));
    }

    private static void pass() {
        ShardGuard guard = Check.loaded("workers 2 size 1; restart 1; limit 9; retries 5; tenant 0; request 0 1 poisoned;");
        String before = Check.everything(guard);
        Check.illegal("pass(0)", () -> guard.pass(0));
        Check.illegal("pass(-1)", () -> guard.pass(-1));
        Check.illegal("pass(101)", () -> guard.pass(101));
        Check.illegal("pass(greatest int)", () -> guard.pass(Integer.MAX_VALUE));
        Check.equal("all behind exceptions", Check.everything(guard), before);
        Check.equal("pass(4)", guard.pass(4), 4);
        Check.equal("pass(100)", guard.pass(100), 2);
        Check.equal("the time", guard.size(4), 104);
        Check.equal("undo", guard.undo(), 1);
        Check.equal("the time behind undo", guard.size(4), 4);
        guard.undo();
        Check.equal("all behind undo", Check.everything(guard), before);
        for (int i = 0; i < 99; i++) {
            guard.pass(100);
        }
        Check.equal("the time", guard.size(4), 9900);
        before = Check.everything(guard);
        Check.equal("pass(100) at 9900", guard.pass(100), -2);
        Check.equal("all behind the error", Check.everything(guard), before);
        Check.equal("pass(99) at 9900", guard.pass(99), 0);
        Check.equal("pass(1) at 9999", guard.pass(1), -2);
        Check.illegal("the exception first", () -> guard.pass(101));
    }
}
