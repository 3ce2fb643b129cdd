/** Promise 38: query. */
public final class QueryTest {
    public static void main(String[] args) {
        answers();
        properties();
        precedence();
        sixtyRequests();
        arguments();
        errors();
        openOnes();
        Check.end();
    }

    /** Request 0 done, 1 at work, 2 behind it, 3 parked, 4 refused, 5 dropped, 6 parked behind 3. */
    private static ShardGuard sample() {
        ShardGuard guard = Check.loaded("workers 4 size 1; restart 50; retries 0; limit 1; quarantine 9;"
            + "tenant 0; tenant 1; tenant 2;"
            + "request 0 1; request 0 9; request 0 4; request 1 3; request 2 5; request 2 2 poisoned; request 1 6;");
        guard.move(2, 8);
        guard.kill(1);
        guard.pass(7);
        return guard;
    }

    private static void is(ShardGuard guard, String text, int due) {
        Check.equal(text, Check.query(guard, text), due);
    }

    private static void answers() {
        ShardGuard guard = sample();
        Check.equal("the sample's states", states(guard), "2 0 0 1 2 3 1");
        is(guard, "many state = 1", 2);
        is(guard, "first state = 1", 3);
        is(guard, "first state = 4", ShardGuard.NONE);
        is(guard, "many state = 4", 0);
        is(guard, "many 0 = 0", 7);
        is(guard, "first 9999 = 9999", 0);
        is(guard, "many 0 < 0", 0);
        is(guard, "many 1<2", 7);
        is(guard, "many 2>1", 7);
        is(guard, "many 1>2", 0);
        is(new ShardGuard(), "many 0=0", 0);
        is(new ShardGuard(), "first 0=0", ShardGuard.NONE);
        is(new ShardGuard(), "first not 0=1", ShardGuard.NONE);
        String before = Check.everything(guard);
        is(guard, "many place > 0", 2);
        Check.equal("nothing changes", Check.everything(guard), before);
    }

    private static String states(ShardGuard guard) {
        StringBuilder text = new StringBuilder();
        for (int request = 0; request < guard.size(3); request++) {
            text.append(request == 0 ? "" : " ").append(guard.request(request, 4));
        }
        return text.toString();
    }

    private static void properties() {
        ShardGuard guard = sample();
        is(guard, "many request < 3", 3);
        is(guard, "first request = 6", 6);
        is(guard, "first tenant = 2", 4);
        is(guard, "many cost > 4", 3);
        is(guard, "first cost = 2", 5);
        is(guard, "many rest = cost", 3);
        is(guard, "first rest = 3", 1);
        is(guard, "many rest = 0", 3);
        is(guard, "many poisoned = 1", 1);
        is(guard, "many poisoned = 0", 6);
        is(guard, "many attempts = 1", 1);
        is(guard, "many worker = 0", 5);
        is(guard, "many worker = 1", 2);
        is(guard, "first place = 1", 2);
        is(guard, "many place = 1", 2);
        is(guard, "many state = 1 and place = 1 and request = 6", 1);
        is(guard, "many place = 0", 5);
        is(guard, "many state > 1 and place = 0", 3);
        is(guard, "many request=request", 7);
        is(guard, "many\n3\n>\nrequest", 3);
    }

    private static void precedence() {
        ShardGuard guard = sample();
        // With 'or' first the answer would be 0.
        is(guard, "many 0=0 or 0=0 and 0=1", 7);
        is(guard, "many (0=0 or 0=0) and 0=1", 0);
        is(guard, "many 0=1 and 0=1 or 0=0", 7);
        is(guard, "many 0=1 and (0=1 or 0=0)", 0);
        is(guard, "many not 0=0 or 0=0", 7);
        is(guard, "many not (0=0 or 0=0)", 0);
        is(guard, "many not 0=1 and 0=1", 0);
        is(guard, "many not (0=1 and 0=1)", 7);
        is(guard, "many not not request = 2", 1);
        is(guard, "many ((request = 2))", 1);
        is(guard, "many request=1 or request=3 or request=5", 3);
        is(guard, "first request>1 and request<6 and not request=2", 3);
    }

    private static void sixtyRequests() {
        ShardGuard guard = Check.loaded("workers 2 size 1; tenant 0;");
        for (int i = 0; i < 60; i++) {
            Check.equal("submit", guard.submit(0, 1 + i % 20, i % 2 == 1), i);
        }
        is(guard, "many not 0=1", 60);
        is(guard, "many request > 30", 29);
        is(guard, "first request > 30", 31);
        is(guard, "first request = 59", 59);
        is(guard, "first place = 59", 59);
        is(guard, "many poisoned=1", 30);
        is(guard, "first place > 59", ShardGuard.NONE);
    }

    private static void arguments() {
        ShardGuard guard = sample();
        Check.illegal("query(-1)", () -> guard.query(-1));
        Check.illegal("query(1) of nothing", () -> guard.query(1));
        Check.feed(guard, "many 0=0");
        Check.illegal("query(21)", () -> guard.query(21));
        Check.equal("the buffer stays", guard.query(8), 7);
        Check.illegal("the buffer is empty", () -> guard.query(1));
        StringBuilder blanks = new StringBuilder("many 0=0");
        while (blanks.length() < 201) {
            blanks.append(' ');
        }
        Check.feed(guard, blanks.toString());
        Check.illegal("query(201)", () -> guard.query(201));
        Check.illegal("query(greatest int)", () -> guard.query(Integer.MAX_VALUE));
        Check.equal("query(200)", guard.query(200), 7);
        Check.equal("query(0)", guard.query(0), ShardGuard.HIDDEN - 1);
        Check.equal("its position", guard.errorPosition(), 0);
    }

    private static void error(String text, int code, int position) {
        ShardGuard guard = sample();
        guard.saveSnapshot();
        String before = Check.everything(guard);
        is(guard, text, ShardGuard.HIDDEN - code);
        Check.equal("errorPosition of " + text, guard.errorPosition(), position);
        Check.illegal("the buffer behind " + text, () -> guard.load(1));
        Check.equal("all behind " + text, Check.everything(guard), before);
    }

    private static void errors() {
        error("", 1, 0);
        error("all 0=0", 1, 0);
        error("0=0", 1, 0);
        error("many", 1, 4);
        error("many  ", 1, 6);
        error("many many 0=0", 1, 5);
        error("many 0", 1, 6);
        error("many 0=", 1, 7);
        error("many 0==0", 1, 7);
        error("many 0<=0", 1, 7);
        error("many 0=0 0", 1, 9);
        error("many 0=0 and", 1, 12);
        error("many 0=0 or or 0=0", 1, 12);
        error("many 0=0 and and 0=0", 1, 13);
        error("many or 0=0", 1, 5);
        error("many and 0=0", 1, 5);
        error("many not", 1, 8);
        error("many 0 not = 0", 1, 7);
        error("many ()", 1, 6);
        error("many (0=0", 1, 9);
        error("many 0=0)", 1, 8);
        error("many (0=0))", 1, 10);
        error("many (0)=0", 1, 7);
        error("many 0=(0)", 1, 7);
        error("many 0=0;", 1, 8);
        error("many Cost=0", 1, 5);
        error("many costs=0", 1, 5);
        error("many 0=time", 1, 7);
        error("many -1=0", 1, 5);
        error("many 10000=0", 2, 5);
        error("many 0=10000", 2, 7);
        error("many 0=4294967296", 2, 7);
        error("many 0=0 10000", 1, 9);
        error("many 10000", 2, 5);
        error("first 00009999=9999 or 00010000=0", 2, 23);
    }

    private static void openOnes() {
        ShardGuard guard = sample();
        is(guard, "many not not not not not not 0=0", 7);
        is(guard, "many ((((((0=0))))))", 7);
        is(guard, "many not(not(not(0=0)))", 0);
        error("many not not not not not not not 0=0", 3, 29);
        error("many (((((((0=0)))))))", 3, 11);
        error("many not(not(not((0=0))))", 3, 17);
        error("many not(not(not(not 0=0)))", 3, 17);
        error("many (((((( (", 3, 12);
        // What is closed does not count: a 'not' ends with its factor, a '(' with its ')'.
        is(guard, "many not not not not not not 0=0 and not not not not not not 0=0", 7);
        is(guard, "many ((((((0=0)))))) or ((((((0=0))))))", 7);
        is(guard, "many (((((0=0 and not 0=1) or not 0=1)))) and not (((((0=1)))))", 7);
        is(guard, "many (((((not 0=1 and not 0=1)))))", 7);
        error("many (((((not 0=1 and not not 0=1)))))", 3, 26);
        error("many not (((((0=0))))) and not ((((( (0=0))))))", 3, 37);
        // Behind the sixth one a wrong token is still only a wrong token.
        error("many (((((( and", 1, 12);
        error("many (((((( 10000", 2, 12);
    }
}
