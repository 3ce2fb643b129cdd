/** Promises 27 and 30 to 37: kill, release, set, format, undo and the snapshot. */
public final class OperationTest {
    public static void main(String[] args) {
        kill();
        release();
        set();
        format();
        longestFormat();
        undo();
        looksAreNotRecorded();
        undoOfEach();
        snapshot();
        laterSnapshot();
        killsComeBack();
        Check.end();
    }

    private static ShardGuard fiveQueued() {
        return Check.loaded("workers 3 size 2; restart 4; tenant 0 1; tenant 0 2;"
            + "request 0 5; request 1 6; request 0 7; request 1 2; request 0 3 poisoned;");
    }

    private static ShardGuard firstDown() {
        ShardGuard guard = fiveQueued();
        guard.kill(0);
        return guard;
    }

    private static void kill() {
        ShardGuard guard = fiveQueued();
        Check.equal("queue 0", Check.formatted(guard, 0), "w0 up 0:5 3:2 4!:3");
        Check.equal("kill(0)", guard.kill(0), 2);
        Check.equal("down", guard.worker(0, 0), 0);
        Check.equal("its time", guard.worker(0, 1), 4);
        Check.equal("no kill", guard.worker(0, 4), 0);
        Check.equal("queue 0", guard.worker(0, 2), 0);
        Check.equal("queue 1", Check.formatted(guard, 1), "w1 up 2:7 0:5 4!:3");
        Check.equal("kill(2)", guard.kill(2), 1);
        Check.equal("kill(1)", guard.kill(1), 0);
        Check.equal("undo", guard.undo(), 2);
        Check.equal("undo", guard.undo(), 1);
        Check.equal("all behind undo", Check.everything(guard), Check.everything(firstDown()));
        guard.pass(3);
        Check.equal("still down", guard.kill(0), -2);
        guard.pass(1);
        Check.equal("up again", guard.kill(0), 2);
        Refused refused = new Refused(OperationTest::firstDown);
        refused.noSuch("kill(-1)", other -> other.kill(-1));
        refused.noSuch("kill(3)", other -> other.kill(3));
        refused.answers("kill(0) again", other -> other.kill(0), -2);
    }

    private static void release() {
        ShardGuard guard = Check.loaded("workers 2 size 1; limit 1; quarantine 9; tenant 0; tenant 1;"
            + "request 0 1 poisoned;");
        Check.equal("release of an open one", guard.release(0), -2);
        Check.noSuch("release(-1)", () -> guard.release(-1));
        Check.noSuch("release(2)", () -> guard.release(2));
        Check.equal("undoCount", guard.undoCount(), 0);
        guard.pass(1);
        String before = Check.everything(guard);
        Check.equal("release at once", guard.release(0), 9);
        guard.undo();
        Check.equal("all behind undo", Check.everything(guard), before);
        guard.pass(8);
        Check.equal("release in the end", guard.release(0), 1);
        Check.equal("open", guard.tenant(0, 1), 0);
        Check.equal("its end", guard.tenant(0, 2), ShardGuard.NONE);
        Check.equal("release again", guard.release(0), -2);
        Check.equal("release of the other", guard.release(1), -2);
        Check.equal("undoCount", guard.undoCount(), 3);
        Check.equal("what was refused stays so", guard.request(0, 4), 4);
        Check.equal("no counted kills", guard.tenant(0, 7), 0);
        guard.set(3, 99);
        guard.pass(1);
        Check.equal("still open", guard.tenant(0, 1), 0);
    }

    private static void set() {
        ShardGuard guard = new ShardGuard();
        int[] usual = {5, 2, 3, 20, 50};
        int[] least = {1, 0, 1, 1, 1};
        int[] greatest = {50, 5, 9, 99, 999};
        for (int i = 0; i < 5; i++) {
            int what = i;
            Check.illegal("set(" + what + ", too small)", () -> guard.set(what, least[what] - 1));
            Check.illegal("set(" + what + ", too great)", () -> guard.set(what, greatest[what] + 1));
            Check.illegal("set(" + what + ", least int)", () -> guard.set(what, Integer.MIN_VALUE));
            Check.equal("the setting", guard.setting(what), usual[what]);
            Check.equal("undoCount", guard.undoCount(), 0);
            Check.equal("set to the least", guard.set(what, least[what]), usual[what]);
            Check.equal("set to the greatest", guard.set(what, greatest[what]), least[what]);
            Check.equal("set to the same", guard.set(what, greatest[what]), greatest[what]);
            Check.equal("undoCount", guard.undoCount(), 3);
            guard.undo();
            guard.undo();
            Check.equal("behind undo", guard.setting(what), least[what]);
            guard.undo();
        }
        Check.noSuch("set(-1, 1)", () -> guard.set(-1, 1));
        Check.noSuch("set(5, 1)", () -> guard.set(5, 1));
        Check.noSuch("set(5, -1)", () -> guard.set(5, -1));
        Check.noSuch("set(greatest int, 0)", () -> guard.set(Integer.MAX_VALUE, 0));
    }

    private static void format() {
        ShardGuard guard = Check.loaded("workers 12 size 1; restart 50; tenant 11; tenant 0; request 0 20;"
            + "request 0 10 poisoned; request 0 9;");
        Check.equal("formattedByte before", guard.formattedByte(0), ShardGuard.NONE);
        Check.equal("format(11)", guard.format(11), 21);
        Check.equal("its text", Check.lastFormatted(guard), "w11 up 0:20 1!:10 2:9");
        Check.equal("formattedByte(-1)", guard.formattedByte(-1), ShardGuard.NONE);
        Check.equal("formattedByte(20)", guard.formattedByte(20), '9');
        Check.equal("formattedByte(21)", guard.formattedByte(21), ShardGuard.NONE);
        Check.equal("formattedByte(least int)", guard.formattedByte(Integer.MIN_VALUE), ShardGuard.NONE);
        Check.equal("formattedByte(greatest int)", guard.formattedByte(Integer.MAX_VALUE), ShardGuard.NONE);
        guard.pass(1);
        Check.equal("as it was then", Check.lastFormatted(guard), "w11 up 0:20 1!:10 2:9");
        Check.equal("a shorter text", guard.format(0), 5);
        Check.equal("nothing of the longer one", Check.lastFormatted(guard), "w0 up");
        guard.kill(11);
        Check.equal("a worker that is down", Check.formatted(guard, 11), "w11 down");
        Check.noSuch("format(-1)", () -> guard.format(-1));
        Check.noSuch("format(12)", () -> guard.format(12));
        Check.equal("behind exceptions", Check.lastFormatted(guard), "w11 down");
        guard.undo();
        Check.equal("behind undo", Check.lastFormatted(guard), "w11 down");
        Check.equal("now", Check.formatted(guard, 11), "w11 up 0:19 1!:10 2:9");
        guard.saveSnapshot();
        guard.restoreSnapshot();
        Check.equal("behind restoreSnapshot", Check.lastFormatted(guard), "w11 up 0:19 1!:10 2:9");
        Check.load(guard, "workers 2 size 1;");
        Check.equal("behind load", Check.lastFormatted(guard), "w11 up 0:19 1!:10 2:9");
    }

    private static void longestFormat() {
        StringBuilder due = new StringBuilder("w11 up");
        ShardGuard guard = Check.loaded("workers 12 size 1; tenant 11;");
        for (int i = 0; i < 60; i++) {
            guard.submit(0, 20, true);
            due.append(' ').append(i).append("!:20");
        }
        Check.equal("the length", guard.format(11), due.length());
        Check.equal("the text", Check.lastFormatted(guard), due.toString());
        Check.equal("the byte behind", guard.formattedByte(due.length()), ShardGuard.NONE);
        Check.equal("the last byte", guard.formattedByte(due.length() - 1), '0');
    }

    private static ShardGuard changed(int changes) {
        ShardGuard guard = Check.loaded("workers 3 size 1; tenant 0; tenant 1;");
        for (int i = 0; i < changes; i++) {
            change(guard, i);
            Check.equal("undoCount", guard.undoCount(), Math.min(10, i + 1));
        }
        return guard;
    }

    private static void undo() {
        Check.equal("undo of nothing", changed(0).undo(), ShardGuard.NONE);
        for (int undone = 1; undone <= 11; undone++) {
            ShardGuard guard = changed(37);
            for (int left = 9; left >= 0 && left > 9 - undone; left--) {
                Check.equal("undo", guard.undo(), left);
                Check.equal("undoCount", guard.undoCount(), left);
            }
            if (undone == 11) {
                Check.equal("the 11th undo", guard.undo(), ShardGuard.NONE);
            }
            String due = guardTold(changed(37 - Math.min(10, undone)));
            Check.equal("all behind " + undone + " times undo", guardTold(guard), due);
        }
        // Operations behind undo are recorded anew.
        ShardGuard guard = changed(3);
        guard.undo();
        change(guard, 1);
        Check.equal("undoCount", guard.undoCount(), 3);
        Check.equal("undo", guard.undo(), 2);
        Check.equal("all behind undo", guardTold(guard), guardTold(changed(2)));
    }

    /** Calls that are no operations are not recorded. */
    private static void looksAreNotRecorded() {
        ShardGuard guard = changed(4);
        guard.format(0);
        guard.saveSnapshot();
        guard.bestSeed();
        guard.doneBehind(200);
        guard.poisonKills(0);
        guard.poisonHarm(0);
        guard.drawn(0, 5);
        Check.query(guard, "many 0=0");
        Check.equal("all behind looks", Check.everything(guard), Check.everything(changed(4)));
    }

    private static String guardTold(ShardGuard guard) {
        String all = Check.everything(guard);
        return all.substring(0, all.lastIndexOf("undo"));
    }

    private static void change(ShardGuard guard, int number) {
        if (number % 5 == 0) {
            guard.draw(number);
        } else if (number % 5 == 1) {
            guard.submit(number % 2, 1 + number % 3, true);
        } else if (number % 5 == 2) {
            guard.set(2, 1 + number % 9);
        } else if (number % 5 == 3) {
            guard.move(0, 1 << number % 3);
        } else {
            guard.pass(number);
        }
    }

    private static ShardGuard passed(int rounds) {
        ShardGuard guard = Check.loaded("workers 4 size 2; limit 2; restart 3; tenant 0 1; tenant 1 2; tenant 2 3;"
            + "request 0 2 poisoned; request 0 7; request 1 4; request 1 5; request 2 6 poisoned;");
        for (int i = 0; i < rounds; i++) {
            guard.pass(1 + i % 3);
        }
        return guard;
    }

    private static void undoOfEach() {
        for (int rounds = 0; rounds < 9; rounds++) {
            ShardGuard guard = passed(rounds);
            int[] answers = {guard.submit(rounds % 3, 1 + rounds, rounds % 2 == 0), guard.kill(rounds % 4),
                guard.pass(1 + rounds), guard.draw(rounds), guard.move(rounds % 3, 12), guard.set(rounds % 5, 2),
                guard.release(rounds % 3)};
            for (int answer : answers) {
                if (answer >= 0) {
                    guard.undo();
                }
            }
            Check.equal("all behind undo of each", guardTold(guard), guardTold(passed(rounds)));
        }
    }

    /** Kills that were undone and made otherwise must come back as they were. */
    private static void killsComeBack() {
        ShardGuard guard = Check.loaded("workers 3 size 1; retries 0; window 99; limit 9; tenant 0; tenant 1;");
        guard.submit(0, 1, true);
        guard.pass(1);
        guard.saveSnapshot();
        String saved = guardTold(guard);
        guard.undo();
        guard.undo();
        guard.pass(9);
        guard.submit(1, 2, true);
        String before = guardTold(guard);
        guard.pass(3);
        Check.equal("a kill of the other tenant", guard.tenant(1, 7), 1);
        guard.undo();
        Check.equal("all behind undo", guardTold(guard), before);
        guard.pass(2);
        guard.restoreSnapshot();
        Check.equal("all behind restore", guardTold(guard), saved);
        Check.equal("counted kills", guard.tenant(0, 7) * 10 + guard.tenant(1, 7), 10);
        guard.set(3, 1);
        guard.pass(1);
        Check.equal("counted in a window of 1", guard.tenant(0, 7), 0);
    }

    private static void snapshot() {
        ShardGuard guard = Check.loaded("workers 3 size 1; limit 1; tenant 0; tenant 1; request 0 1 poisoned; request 1 9;");
        Check.equal("restore of nothing", guard.restoreSnapshot() ? 1 : 0, 0);
        guard.pass(1);
        Check.equal("restore of nothing", guard.restoreSnapshot() ? 1 : 0, 0);
        Check.equal("nothing changes", guard.undoCount(), 1);
        guard.saveSnapshot();
        Check.equal("saving is not recorded", guard.undoCount(), 1);
        String saved = guardTold(guard);
        guard.pass(3);
        guard.kill(2);
        guard.release(0);
        guard.draw(7);
        guard.set(4, 3);
        Check.equal("restore", guard.restoreSnapshot() ? 1 : 0, 1);
        Check.equal("all behind restore", guardTold(guard), saved);
        Check.equal("the history is cleared", guard.undo(), ShardGuard.NONE);
        guard.pass(2);
        Check.equal("undo behind restore", guard.undo(), 0);
        Check.equal("all behind undo", guardTold(guard), saved);
        guard.pass(5);
        Check.equal("restore again", guard.restoreSnapshot() ? 1 : 0, 1);
        Check.equal("all behind it", guardTold(guard), saved);
    }

    private static void laterSnapshot() {
        ShardGuard guard = Check.loaded("workers 3 size 1; limit 1; tenant 0; tenant 1; request 0 1 poisoned; request 1 9;");
        guard.pass(1);
        guard.saveSnapshot();
        String saved = guardTold(guard);
        // A later snapshot replaces it; undo does not touch it.
        guard.pass(1);
        guard.saveSnapshot();
        String later = guardTold(guard);
        guard.undo();
        Check.equal("all behind undo", guardTold(guard), saved);
        guard.restoreSnapshot();
        Check.equal("the later one", guardTold(guard), later);
        // A load that fails keeps it, one that succeeds discards it.
        Check.load(guard, "workers");
        Check.equal("behind a failed load", guard.restoreSnapshot() ? 1 : 0, 1);
        Check.load(guard, "workers 2 size 1;");
        Check.equal("behind a load", guard.restoreSnapshot() ? 1 : 0, 0);
        guard.saveSnapshot();
        guard.set(0, 1);
        Check.equal("one of the new text", guard.restoreSnapshot() ? 1 : 0, 1);
        Check.equal("its setting", guard.setting(0), 5);
    }
}
