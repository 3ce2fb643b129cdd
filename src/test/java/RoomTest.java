import java.lang.management.ManagementFactory;

/** All calls of a run share one room of 7.3 million cells, so no call may make more than a little. */
public final class RoomTest {
    private static final com.sun.management.ThreadMXBean BEAN =
        (com.sun.management.ThreadMXBean) ManagementFactory.getThreadMXBean();
    /** What is left of 512 calls behind those that prepare an object. */
    private static final int CALLS = 430;
    /** A new object with all its rows, the ten that undoing needs among them, has some 20,000 cells. */
    private static final long MOST_BYTES = 100_000;

    public static void main(String[] args) {
        StringBuilder made = new StringBuilder("workers 12 size 4; retries 5; limit 9; restart 1; window 99;");
        for (int i = 0; i < 12; i++) {
            made.append("tenant ").append(i % 9).append(' ').append(i % 9 + 1).append(' ').append(i % 9 + 2)
                .append(' ').append(i % 9 + 3).append(';');
        }
        String text = made.toString();
        measure("load", text, 2 + text.length() / 20, guard -> Check.load(guard, text));
        measure("query", text, 4, guard -> Check.query(guard, "many not(not(not(place=place))) and place<worker"));
        measure("pass", text, 2, guard -> guard.pass(100) + guard.undo());
        measure("submit", text, 1, guard -> guard.submit(1, 20, true));
        measure("kill", text, 3, guard -> guard.kill(guard.size(3) % 12) + guard.pass(1));
        measure("move and draw", text, 2, guard -> guard.move(0, 15) + guard.draw(3));
        measure("set and undo", text, 2, guard -> guard.set(0, 5) + guard.undo());
        measure("bestShard", text, 1, guard -> guard.bestShard(0));
        measure("bestSeed", text, 1, guard -> guard.bestSeed());
        measure("poison", text, 2, guard -> guard.poisonKills(0) + guard.poisonHarm(1));
        measure("doneBehind", text, 1, guard -> guard.doneBehind(200));
        measure("format", text, 1, guard -> guard.format(5));
        measure("snapshot", text, 2, guard -> {
            guard.saveSnapshot();
            return guard.restoreSnapshot() ? 1 : 0;
        });
        Check.end();
    }

    private interface Use {
        long answer(ShardGuard guard);
    }

    /**
     * Uses one object, some calls each time, again and again; what feeding makes in the test itself is taken off.
     */
    private static void measure(String name, String text, int calls, Use use) {
        use.answer(prepared(text));
        long before = BEAN.getCurrentThreadAllocatedBytes();
        ShardGuard guard = prepared(text);
        for (int i = 0; i < CALLS / calls; i++) {
            use.answer(guard);
        }
        long made = BEAN.getCurrentThreadAllocatedBytes() - before;
        long feeding = name.equals("load") || name.equals("query") ? CALLS * 40L : 0;
        Check.equal(name + " made " + made + " bytes, too many", made - feeding > MOST_BYTES ? 1 : 0, 0);
    }

    private static ShardGuard prepared(String text) {
        ShardGuard guard = Check.loaded(text);
        for (int i = 0; i < 59; i++) {
            guard.submit(i % 12, 1 + i % 3, i % 2 == 0);
        }
        return guard;
    }
}
