/**
 * A way to make an object, and calls that it must refuse: each is made on a new one, which must then answer all
 * later calls as one does that was never asked.
 */
final class Refused {
    interface Make {
        ShardGuard guard();
    }

    interface Ask {
        long answer(ShardGuard guard);
    }

    /** Each way of looking takes two objects of its own, so that none is used for more than 512 calls. */
    private static final int LOOKS = 10;

    private final Make make;

    Refused(Make make) {
        this.make = make;
    }

    void noSuch(String call, Ask ask) {
        for (int look = 0; look < LOOKS; look++) {
            ShardGuard guard = make.guard();
            Check.noSuch(call, () -> ask.answer(guard));
            compare(call, look, guard);
        }
    }

    void illegal(String call, Ask ask) {
        for (int look = 0; look < LOOKS; look++) {
            ShardGuard guard = make.guard();
            Check.illegal(call, () -> ask.answer(guard));
            compare(call, look, guard);
        }
    }

    void answers(String call, Ask ask, long due) {
        for (int look = 0; look < LOOKS; look++) {
            ShardGuard guard = make.guard();
            Check.equal(call, ask.answer(guard), due);
            compare(call, look, guard);
        }
    }

    private void compare(String call, int look, ShardGuard guard) {
        Check.equal("what is seen (" + look + ") behind " + call, seen(look, guard), seen(look, make.guard()));
    }

    private static String seen(int look, ShardGuard guard) {
        int half = look % 2;
        switch (look / 2) {
            case 0:
                return everything(guard, half) + Check.lastFormatted(guard) + guard.errorPosition() + guard.feed(0, 0, 0, 0, 0);
            case 1:
                return buffer(guard);
            case 2:
                return undone(guard, half);
            case 3:
                return guard.restoreSnapshot() + everything(guard, half);
            default:
                return later(guard, half);
        }
    }

    private static String everything(ShardGuard guard, int half) {
        return Check.everything(guard, half, 2);
    }

    /** Reads all that is in the buffer as a query, if it is not too long for one, otherwise as a text. */
    private static String buffer(ShardGuard guard) {
        int more = guard.feed(0, 0, 0, 0, 0);
        int filled = more == ShardGuard.NONE ? 700 : more - 20;
        int answer = filled <= 200 ? guard.query(filled) : guard.load(filled);
        return filled + " " + answer + " " + guard.errorPosition();
    }

    private static String undone(ShardGuard guard, int half) {
        StringBuilder text = new StringBuilder();
        int left = guard.undo();
        text.append(left);
        while (left > 0) {
            for (int what = 0; what < 10; what++) {
                text.append(' ').append(guard.size(what));
            }
            left = guard.undo();
            text.append(' ').append(left);
        }
        return text + everything(guard, half);
    }

    private static String later(ShardGuard guard, int half) {
        StringBuilder text = new StringBuilder();
        for (int tenant = 0; tenant < guard.size(2); tenant++) {
            text.append(guard.poisonKills(tenant)).append(' ').append(guard.drawn(tenant, 7)).append(' ');
        }
        text.append(guard.doneBehind(200)).append(' ').append(guard.pass(30));
        return text + everything(guard, half);
    }
}
