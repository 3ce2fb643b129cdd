/** Promises 14 to 19, 23, 28 and 29: how shards are compared, drawn and moved. */
public final class ShardTest {
    public static void main(String[] args) {
        overlaps();
        covered();
        bestShard();
        drawn();
        bestSeed();
        meanOverlap();
        move();
        draw();
        Check.end();
    }

    private static ShardGuard sample() {
        return Check.loaded("workers 5 size 2; tenant 0 1; tenant 1 2; tenant 3 4; tenant 1 0;");
    }

    private static void overlaps() {
        ShardGuard guard = sample();
        Check.equal("overlap(0, 1)", guard.overlap(0, 1), 1);
        Check.equal("overlap(1, 0)", guard.overlap(1, 0), 1);
        Check.equal("overlap(0, 2)", guard.overlap(0, 2), 0);
        Check.equal("overlap(0, 3)", guard.overlap(0, 3), 2);
        Check.equal("overlap(2, 2)", guard.overlap(2, 2), 2);
        Check.noSuch("overlap(-1, 0)", () -> guard.overlap(-1, 0));
        Check.noSuch("overlap(0, 4)", () -> guard.overlap(0, 4));
        Check.noSuch("overlap(4, 0)", () -> guard.overlap(4, 0));
        Check.noSuch("overlap(0, -1)", () -> guard.overlap(0, -1));
        Check.equal("greatestOverlap", guard.greatestOverlap(), 2);
        Check.equal("of none", new ShardGuard().greatestOverlap(), 0);
        Check.equal("of one", Check.loaded("workers 2 size 2; tenant 0 1;").greatestOverlap(), 0);
        Check.equal("of two", Check.loaded("workers 3 size 2; tenant 0 1; tenant 2 1;").greatestOverlap(), 1);
    }

    private static void covered() {
        ShardGuard guard = sample();
        Check.equal("covered(0)", guard.covered(0), 1);
        Check.equal("covered(1)", guard.covered(1), 0);
        Check.equal("covered(3)", guard.covered(3), 1);
        Check.equal("covered of one", Check.loaded("workers 2 size 1; tenant 0;").covered(0), 0);
        Check.noSuch("covered(-1)", () -> guard.covered(-1));
        Check.noSuch("covered(4)", () -> guard.covered(4));
    }

    private static void bestShard() {
        Check.equal("of one", Check.loaded("workers 12 size 4; tenant 8 9 10 11;").bestShard(0), 15);
        ShardGuard two = Check.loaded("workers 4 size 2; tenant 0 1; tenant 0 1;");
        Check.equal("of two", two.bestShard(0), 12);
        // The greatest overlap counts before the sum: 2 with one tenant is worse than 1 with each of three.
        ShardGuard first = Check.loaded("workers 3 size 2; tenant 0 1; tenant 0 2; tenant 0 2;");
        Check.equal("greatest first", first.bestShard(0), 3);
        // The greatest is 1 anyway; the sum decides, then the mask.
        ShardGuard sum = Check.loaded("workers 3 size 1; tenant 0; tenant 0; tenant 0; tenant 1; tenant 2;");
        Check.equal("the sum then", sum.bestShard(0), 2);
        ShardGuard mask = Check.loaded("workers 3 size 1; tenant 0; tenant 1; tenant 1; tenant 0; tenant 2; tenant 2;");
        Check.equal("the mask last", mask.bestShard(0), 1);
        Check.equal("all workers", Check.loaded("workers 2 size 2; tenant 1 0; tenant 0 1;").bestShard(1), 3);
        Check.equal("nothing changes", two.tenant(0, 0), 3);
        Check.noSuch("bestShard(-1)", () -> two.bestShard(-1));
        Check.noSuch("bestShard(2)", () -> two.bestShard(2));
    }

    /** Draws shards with long arithmetic, as the document says it. */
    static int[] draw(int workers, int size, int tenants, int seed) {
        long x = seed;
        int[] shards = new int[tenants];
        for (int tenant = 0; tenant < tenants; tenant++) {
            java.util.List<Integer> left = new java.util.ArrayList<>();
            for (int worker = 0; worker < workers; worker++) {
                left.add(worker);
            }
            for (int i = 0; i < size; i++) {
                x = (x * 1103515245L + 12345L) % 2147483648L;
                int place = (int) (x / 65536L % left.size());
                shards[tenant] |= 1 << left.remove(place);
            }
        }
        return shards;
    }

    private static final int[] SEEDS = {0, 1, 2, 42, 99, 100, 65536, 123456789, 2147483646, 2147483647};

    private static void drawn() {
        for (int workers = 2; workers <= 12; workers += 5) {
            for (int size = 1; size <= Math.min(4, workers); size++) {
                ShardGuard guard = Check.fleet(workers, size, 12);
                for (int seed : SEEDS) {
                    int[] due = draw(workers, size, 12, seed);
                    for (int tenant = 0; tenant < 12; tenant++) {
                        Check.equal("drawn(" + tenant + ", " + seed + ")", guard.drawn(tenant, seed), due[tenant]);
                    }
                }
                ShardGuard other = Check.fleet(workers, size, 12);
                other.drawn(11, 42);
                String due = Check.everything(Check.fleet(workers, size, 12));
                Check.equal("all behind drawn", Check.everything(other), due);
            }
        }
        ShardGuard guard = sample();
        Check.noSuch("drawn(4, 0)", () -> guard.drawn(4, 0));
        Check.noSuch("drawn(-1, 0)", () -> guard.drawn(-1, 0));
        Check.noSuch("drawn(4, -1)", () -> guard.drawn(4, -1));
        Check.illegal("drawn(0, -1)", () -> guard.drawn(0, -1));
        Check.illegal("drawn(0, least int)", () -> guard.drawn(0, Integer.MIN_VALUE));
    }

    private static void bestSeed() {
        Check.equal("of no tenant", new ShardGuard().bestSeed(), 0);
        Check.equal("of one tenant", Check.fleet(5, 2, 1).bestSeed(), 0);
        // With seed 100 the greatest overlap would be smaller than with all seeds before.
        Check.equal("seed 100 is not tried", Check.fleet(11, 4, 11).bestSeed(), bestOf(11, 4, 11));
        Check.equal("a great seed", Check.fleet(11, 1, 8).bestSeed(), 95);
        // A text that fails leaves the fleet, and so what would be drawn.
        ShardGuard kept = Check.fleet(10, 3, 7);
        int seed0 = kept.drawn(6, 0);
        int best = kept.bestSeed();
        Check.load(kept, "workers 2 size 1; tenant 0; #");
        Check.equal("drawn behind a failed load", kept.drawn(6, 0), seed0);
        Check.load(kept, "workers 2 size 1; tenant 0; #");
        Check.equal("bestSeed behind a failed load", kept.bestSeed(), best);
        int different = 0;
        for (int tenants = 2; tenants <= 12; tenants++) {
            for (int size = 1; size <= 4; size++) {
                ShardGuard guard = Check.fleet(10, size, tenants);
                int due = bestOf(10, size, tenants);
                different += due > 0 ? 1 : 0;
                Check.equal("bestSeed with " + tenants + " tenants, size " + size, guard.bestSeed(), due);
                Check.equal("shard 0 behind bestSeed", guard.tenant(0, 0), (1 << size) - 1);
            }
        }
        Check.equal("seeds above 0 were due", different > 3 ? 1 : 0, 1);
    }

    private static int bestOf(int workers, int size, int tenants) {
        int best = 0;
        for (int seed = 1; seed <= 99; seed++) {
            if (greatest(draw(workers, size, tenants, seed)) < greatest(draw(workers, size, tenants, best))) {
                best = seed;
            }
        }
        return best;
    }

    private static int greatest(int[] shards) {
        int greatest = 0;
        for (int i = 0; i < shards.length; i++) {
            for (int j = 0; j < i; j++) {
                greatest = Math.max(greatest, Integer.bitCount(shards[i] & shards[j]));
            }
        }
        return greatest;
    }

    private static void meanOverlap() {
        Check.equal("of none", new ShardGuard().meanOverlap(), 0.0);
        Check.equal("of one", Check.fleet(4, 2, 1).meanOverlap(), 0.0);
        Check.equal("of two", Check.fleet(4, 2, 2).meanOverlap(), 2.0);
        // Overlaps 1, 0, 2, 0, 1, 0 of the six pairs.
        Check.equal("of four", sample().meanOverlap(), 4.0 / 6.0);
        Check.equal("of twelve", Check.fleet(4, 3, 12).meanOverlap(), 3.0);
        Check.equal("of three", Check.loaded("workers 4 size 1; tenant 0; tenant 0; tenant 1;").meanOverlap(), 1.0 / 3.0);
    }

    private static void move() {
        ShardGuard guard = Check.loaded("workers 3 size 1; tenant 0; request 0 3; request 0 2;");
        String before = Check.everything(guard);
        Check.noSuch("move(1, 1)", () -> guard.move(1, 1));
        Check.noSuch("move(-1, -1)", () -> guard.move(-1, -1));
        Check.illegal("move(0, -1)", () -> guard.move(0, -1));
        Check.illegal("move(0, least int)", () -> guard.move(0, Integer.MIN_VALUE));
        Check.illegal("move(0, 8)", () -> guard.move(0, 8));
        Check.illegal("move(0, 9)", () -> guard.move(0, 9));
        Check.equal("move(0, 0)", guard.move(0, 0), -2);
        Check.equal("move(0, 7)", guard.move(0, 7), -2);
        Check.equal("all behind errors", Check.everything(guard), before);
        Check.equal("move(0, 4)", guard.move(0, 4), 1);
        Check.equal("the shard", guard.tenant(0, 0), 4);
        Check.equal("requests stay", Check.formatted(guard, 0), "w0 up 0:3 1:2");
        Check.equal("undoCount", guard.undoCount(), 1);
        Check.equal("move to the same", guard.move(0, 4), 4);
        Check.equal("it is recorded", guard.undoCount(), 2);
        guard.kill(0);
        Check.equal("routed to the new shard", Check.formatted(guard, 2), "w2 up 0:3 1:2");
        guard.undo();
        guard.undo();
        guard.undo();
        Check.equal("all behind undo", Check.everything(guard), before);
        // Parked requests stay parked till the next tick.
        guard.kill(0);
        guard.move(0, 2);
        Check.equal("parked", guard.size(6), 2);
        guard.pass(1);
        Check.equal("routed in the next tick", Check.formatted(guard, 1), "w1 up 0:2 1:2");
    }

    private static ShardGuard threeTenants() {
        return Check.loaded("workers 12 size 3; tenant 0 1 2; tenant 3 4 5; tenant 6 7 8; request 0 5;");
    }

    private static void draw() {
        ShardGuard guard = threeTenants();
        int number = 0;
        for (int seed : SEEDS) {
            int[] due = draw(12, 3, 3, seed);
            Check.equal("draw(" + seed + ")", guard.draw(seed), greatest(due));
            for (int tenant = 0; tenant < 3; tenant++) {
                Check.equal("shard " + tenant + " by " + seed, guard.tenant(tenant, 0), due[tenant]);
            }
            Check.equal("the request stays", guard.queued(0, 0), 0);
            number++;
            Check.equal("undoCount", guard.undoCount(), Math.min(10, number));
        }
        for (int i = 0; i < 10; i++) {
            guard.undo();
        }
        Check.equal("all behind undo", Check.everything(guard), Check.everything(threeTenants()));
        Refused refused = new Refused(ShardTest::threeTenants);
        refused.illegal("draw(-1)", other -> other.draw(-1));
        refused.illegal("draw(least int)", other -> other.draw(Integer.MIN_VALUE));
        ShardGuard empty = new ShardGuard();
        Check.equal("draw without tenants", empty.draw(5), 0);
        Check.equal("it is recorded", empty.undoCount(), 1);
    }
}
