/** Promises 5 to 13: what can be seen of the whole, the workers, the tenants and the requests. */
public final class ViewTest {
    public static void main(String[] args) {
        size();
        setting();
        worker();
        tenant();
        request();
        queuedAndParked();
        kills();
        Check.end();
    }

    /** Tenant 0 on worker 0, tenant 1 on worker 1, tenant 2 on worker 0; poison of tenant 0 kills worker 0. */
    private static ShardGuard sample() {
        return Check.loaded("workers 3 size 1; restart 4; retries 1; limit 2; window 9; quarantine 6;"
            + "tenant 0; tenant 1; tenant 0;"
            + "request 0 1 poisoned; request 2 3; request 1 2; request 1 5; request 0 2;");
    }

    private static void size() {
        ShardGuard guard = sample();
        equalSizes("at first", guard, 3, 1, 3, 5, 0, 3, 0, 0, 0, 0);
        guard.pass(1);
        equalSizes("behind a kill", guard, 3, 1, 3, 5, 1, 2, 3, 1, 2, 0);
        guard.pass(4);
        equalSizes("behind the second kill", guard, 3, 1, 3, 5, 5, 2, 1, 2, 2, 1);
        guard.pass(4);
        equalSizes("when the worker is up again", guard, 3, 1, 3, 5, 9, 3, 0, 2, 0, 1);
        guard.pass(2);
        equalSizes("when the quarantine has ended", guard, 3, 1, 3, 5, 11, 3, 0, 2, 0, 0);
        Check.noSuch("size(-1)", () -> guard.size(-1));
        Check.noSuch("size(10)", () -> guard.size(10));
        Check.noSuch("size(least int)", () -> guard.size(Integer.MIN_VALUE));
        Check.noSuch("size(greatest int)", () -> guard.size(Integer.MAX_VALUE));
    }

    private static void equalSizes(String when, ShardGuard guard, int... due) {
        for (int what = 0; what < due.length; what++) {
            Check.equal("size(" + what + ") " + when, guard.size(what), due[what]);
        }
    }

    private static void setting() {
        ShardGuard guard = sample();
        int[] due = {4, 1, 2, 9, 6};
        for (int what = 0; what < due.length; what++) {
            Check.equal("setting(" + what + ")", guard.setting(what), due[what]);
        }
        Check.noSuch("setting(-1)", () -> guard.setting(-1));
        Check.noSuch("setting(5)", () -> guard.setting(5));
    }

    private static void equalWorker(String when, ShardGuard guard, int worker, int... due) {
        for (int what = 0; what < due.length; what++) {
            Check.equal("worker(" + worker + ", " + what + ") " + when, guard.worker(worker, what), due[what]);
        }
    }

    private static void worker() {
        ShardGuard guard = sample();
        equalWorker("at first", guard, 0, 1, -1, 3, 6, 0, 2);
        equalWorker("at first", guard, 1, 1, -1, 2, 7, 0, 1);
        equalWorker("at first", guard, 2, 1, -1, 0, 0, 0, 0);
        guard.pass(1);
        equalWorker("killed", guard, 0, 0, 5, 0, 0, 1, 2);
        equalWorker("working", guard, 1, 1, -1, 2, 6, 0, 1);
        guard.pass(4);
        equalWorker("killed again", guard, 0, 0, 9, 0, 0, 2, 2);
        guard.pass(4);
        equalWorker("up again", guard, 0, 1, -1, 1, 2, 2, 2);
        guard.kill(0);
        equalWorker("down without a kill", guard, 0, 0, 13, 0, 0, 2, 2);
        Check.noSuch("worker(-1, 0)", () -> guard.worker(-1, 0));
        Check.noSuch("worker(3, 0)", () -> guard.worker(3, 0));
        Check.noSuch("worker(0, -1)", () -> guard.worker(0, -1));
        Check.noSuch("worker(0, 6)", () -> guard.worker(0, 6));
        Check.noSuch("worker(3, 6)", () -> guard.worker(3, 6));
    }

    private static void equalTenant(String when, ShardGuard guard, int tenant, int... due) {
        for (int what = 0; what < due.length; what++) {
            Check.equal("tenant(" + tenant + ", " + what + ") " + when, guard.tenant(tenant, what), due[what]);
        }
    }

    private static void tenant() {
        ShardGuard guard = sample();
        equalTenant("at first", guard, 0, 1, 0, -1, 2, 0, 0, 0, 0, 0);
        equalTenant("at first", guard, 1, 2, 0, -1, 2, 0, 0, 0, 0, 0);
        guard.pass(1);
        equalTenant("behind a kill", guard, 0, 1, 0, -1, 2, 0, 0, 1, 1, 1);
        equalTenant("behind a kill", guard, 2, 1, 0, -1, 1, 0, 0, 0, 0, 1);
        guard.pass(4);
        // The poisoned request was dropped before the quarantine, so only the other one is refused.
        equalTenant("in quarantine", guard, 0, 1, 1, 11, 2, 0, 1, 2, 0, 1);
        equalTenant("working", guard, 1, 2, 0, -1, 2, 1, 0, 0, 0, 0);
        guard.pass(6);
        equalTenant("open again", guard, 0, 1, 0, -1, 2, 0, 1, 2, 0, 0);
        Check.noSuch("tenant(-1, 0)", () -> guard.tenant(-1, 0));
        Check.noSuch("tenant(3, 0)", () -> guard.tenant(3, 0));
        Check.noSuch("tenant(0, -1)", () -> guard.tenant(0, -1));
        Check.noSuch("tenant(0, 9)", () -> guard.tenant(0, 9));
        Check.noSuch("tenant of none", () -> new ShardGuard().tenant(0, 0));

        // A kill is counted while its time is greater than the time minus the window.
        ShardGuard window = Check.loaded("workers 2 size 1; window 3; tenant 0; request 0 1 poisoned;");
        window.set(1, 0);
        window.pass(1);
        int[] counted = {1, 1, 1, 0, 0};
        for (int i = 0; i < counted.length; i++) {
            Check.equal("counted kills at " + window.size(4), window.tenant(0, 7), counted[i]);
            window.pass(1);
        }
        Check.equal("all kills", window.tenant(0, 6), 1);
        window.set(3, 99);
        Check.equal("counted in a longer window", window.tenant(0, 7), 1);
    }

    private static void equalRequest(String when, ShardGuard guard, int request, int... due) {
        for (int what = 0; what < due.length; what++) {
            Check.equal("request(" + request + ", " + what + ") " + when, guard.request(request, what), due[what]);
        }
    }

    private static void request() {
        ShardGuard guard = sample();
        equalRequest("at first", guard, 0, 0, 1, 1, 1, 0, 0, 0, -1);
        equalRequest("at first", guard, 2, 1, 2, 2, 0, 0, 0, 1, -1);
        guard.pass(1);
        equalRequest("parked", guard, 0, 0, 1, 1, 1, 1, 1, -1, -1);
        equalRequest("parked", guard, 1, 2, 3, 3, 0, 1, 0, -1, -1);
        equalRequest("worked on", guard, 2, 1, 2, 1, 0, 0, 0, 1, -1);
        guard.pass(4);
        equalRequest("dropped", guard, 0, 0, 1, 0, 1, 3, 2, -1, 5);
        equalRequest("done", guard, 2, 1, 2, 0, 0, 2, 0, -1, 2);
        equalRequest("refused", guard, 4, 0, 2, 2, 0, 4, 0, -1, 5);
        guard.submit(0, 7, true);
        equalRequest("refused at once", guard, 5, 0, 7, 7, 1, 4, 0, -1, 5);
        Check.noSuch("request(-1, 0)", () -> guard.request(-1, 0));
        Check.noSuch("request(6, 0)", () -> guard.request(6, 0));
        Check.noSuch("request(0, -1)", () -> guard.request(0, -1));
        Check.noSuch("request(0, 8)", () -> guard.request(0, 8));

        // A request that is refused in the middle of its work keeps the rest that it has then.
        ShardGuard half = Check.loaded("workers 2 size 2; limit 1; tenant 0 1; request 0 9; request 0 2 poisoned;");
        half.pass(2);
        equalRequest("refused at work", half, 0, 0, 9, 7, 0, 4, 0, -1, 2);
        equalRequest("refused when it was routed", half, 1, 0, 2, 2, 1, 4, 1, -1, 2);
    }

    private static void queuedAndParked() {
        ShardGuard guard = sample();
        Check.equal("queued(0, 0)", guard.queued(0, 0), 0);
        Check.equal("queued(0, 1)", guard.queued(0, 1), 1);
        Check.equal("queued(0, 2)", guard.queued(0, 2), 4);
        Check.equal("queued(1, 1)", guard.queued(1, 1), 3);
        Check.noSuch("queued(0, 3)", () -> guard.queued(0, 3));
        Check.noSuch("queued(0, -1)", () -> guard.queued(0, -1));
        Check.noSuch("queued(2, 0)", () -> guard.queued(2, 0));
        Check.noSuch("queued(3, 0)", () -> guard.queued(3, 0));
        Check.noSuch("queued(-1, 0)", () -> guard.queued(-1, 0));
        Check.noSuch("parked(0) of none", () -> guard.parked(0));
        guard.pass(1);
        Check.equal("parked(0)", guard.parked(0), 0);
        Check.equal("parked(1)", guard.parked(1), 1);
        Check.equal("parked(2)", guard.parked(2), 4);
        Check.noSuch("parked(3)", () -> guard.parked(3));
        Check.noSuch("parked(-1)", () -> guard.parked(-1));
        Check.noSuch("parked(greatest int)", () -> guard.parked(Integer.MAX_VALUE));
        Check.noSuch("queued(-1, 0) with parked ones", () -> guard.queued(-1, 0));
    }

    private static void kills() {
        ShardGuard guard = Check.loaded("workers 4 size 2; restart 1; retries 5; limit 9; tenant 0 1; tenant 1 2;"
            + "request 0 1 poisoned; request 1 1 poisoned;");
        Check.equal("pairs at first", guard.killingPairs(), 0);
        guard.pass(1);
        // Request 0 killed worker 0, request 1 worker 1 (no load), then both go to workers that are up.
        Check.equal("killsOf(0, 0)", guard.killsOf(0, 0), 1);
        Check.equal("killsOf(1, 1)", guard.killsOf(1, 1), 1);
        Check.equal("killsOf(1, 2)", guard.killsOf(1, 2), 0);
        Check.equal("pairs", guard.killingPairs(), 2);
        guard.pass(20);
        int sum = 0;
        int pairs = 0;
        for (int tenant = 0; tenant < 2; tenant++) {
            for (int worker = 0; worker < 4; worker++) {
                sum += guard.killsOf(tenant, worker);
                pairs += guard.killsOf(tenant, worker) > 0 ? 1 : 0;
            }
        }
        Check.equal("all kills", sum, 12);
        Check.equal("size(7)", guard.size(7), 12);
        Check.equal("all pairs", guard.killingPairs(), pairs);
        Check.noSuch("killsOf(2, 0)", () -> guard.killsOf(2, 0));
        Check.noSuch("killsOf(-1, 0)", () -> guard.killsOf(-1, 0));
        Check.noSuch("killsOf(0, 4)", () -> guard.killsOf(0, 4));
        Check.noSuch("killsOf(0, -1)", () -> guard.killsOf(0, -1));
    }
}
