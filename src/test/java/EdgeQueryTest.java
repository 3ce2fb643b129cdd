/** The boundary cases that the document names of queries: promise 38, its grammar and its error codes. */
public final class EdgeQueryTest {
    public static void main(String[] args) {
        length();
        longest();
        empties();
        errorChangesNothing();
        many();
        first();
        sixty();
        valueRange();
        valueOutOfRange();
        leadingZeros();
        comparisons();
        orAndNot();
        properties();
        workerAndPlace();
        placeInOtherStates();
        notAllowed();
        endsTooEarly();
        seventhOpen();
        openUntilEnd();
        smallestCode();
        firstError();
        Check.end();
    }

    /** Request 0 done, 1 at work and 2 behind it, 3 and 6 parked, 4 dropped, 5 refused. */
    private static ShardGuard states() {
        ShardGuard guard = Check.loaded("workers 4 size 1; restart 50; retries 0; limit 1; tenant 0; tenant 1; tenant 2;"
            + "request 0 1; request 0 9; request 0 4; request 1 3; request 2 2 poisoned; request 2 5; request 1 6;");
        guard.kill(1);
        guard.pass(2);
        return guard;
    }

    private static void is(ShardGuard guard, String text, int due) {
        Check.equal(text, Check.query(guard, text), due);
    }

    private static void error(String text, int code, int position) {
        ShardGuard guard = states();
        is(guard, text, ShardGuard.HIDDEN - code);
        Check.equal("errorPosition of " + text, guard.errorPosition(), position);
    }

    private static void length() {
        Check.says("Throws `IllegalArgumentException` if length is negative, greater than 200, or greater than the number of "
            + "bytes in the buffer (nothing changes)");
        Refused few = new Refused(() -> fed(states(), "many state = 2"));
        for (int length : new int[] {-1, 21, 200, 201, Integer.MIN_VALUE, Integer.MAX_VALUE}) {
            few.illegal("query(" + length + ") of 20", guard -> guard.query(length));
        }
        Refused many = new Refused(() -> fed(states(), Check.filled("many state = 2", 220)));
        for (int length : new int[] {-1, 201, 220, 221}) {
            many.illegal("query(" + length + ") of 220", guard -> guard.query(length));
        }
        ShardGuard empty = new ShardGuard();
        Check.illegal("query(1) of nothing", () -> empty.query(1));
        Check.equal("query(0) of nothing", empty.query(0), ShardGuard.HIDDEN - 1);
        Check.equal("its position", empty.errorPosition(), 0);
        Check.equal("query(20) of 20", fed(states(), "many       state = 2").query(20), 1);
        Check.equal("query(0) of 20", fed(states(), "many       state = 2").query(0), ShardGuard.HIDDEN - 1);
        Check.equal("query(200) of 220", fed(states(), Check.filled("many state = 2", 199) + ' ' + Check.filled("#", 20)).query(200), 1);
        Check.equal("query(200) of 200", fed(states(), Check.filled("many state =", 199) + '2').query(200), 1);
    }

    private static ShardGuard fed(ShardGuard guard, String text) {
        Check.feed(guard, text);
        return guard;
    }

    private static void longest() {
        Check.says("`length`: number of bytes to read, at most 200");
        StringBuilder all = new StringBuilder("many 0=1");
        while (all.length() <= 194) {
            all.append("or 0=1");
        }
        while (all.length() < 200) {
            all.append(' ');
        }
        is(states(), all.toString(), 0);
        is(states(), all.toString().replace("many 0=1", "many 0=0"), 7);
        String ands = all.toString().replace("or 0=1", "and1>0").trim();
        is(states(), ands.replace("many 0=1", "many 0=0"), 7);
    }

    private static void empties() {
        Check.says("The buffer is empty afterwards, also after an error.");
        for (String text : new String[] {"many 0=0", "many 0=", "#"}) {
            ShardGuard guard = fed(states(), text + " many 0=0 and 1=1");
            guard.query(text.length());
            Check.illegal("query(1) behind " + text, () -> guard.query(1));
            Check.illegal("load(1) behind " + text, () -> guard.load(1));
            Check.equal("feed behind " + text, guard.feed(0, 0, 0, 0, 0), 20);
        }
    }

    private static void errorChangesNothing() {
        Check.says("HIDDEN minus the error code if the text has an error");
        for (String text : new String[] {"many", "many 10000=0", "many " + "(".repeat(7), "first 0=0"}) {
            ShardGuard guard = states();
            ShardGuard due = states();
            guard.saveSnapshot();
            Check.query(guard, text);
            Check.equal("all", Check.everything(guard), Check.everything(due));
            guard.pass(60);
            due.pass(60);
            Check.equal("all behind ticks", Check.everything(guard), Check.everything(due));
            Check.equal("the snapshot", guard.restoreSnapshot() ? 1 : 0, 1);
        }
        Check.equal("code 1", Check.query(new ShardGuard(), "many"), -1000000001);
        Check.equal("code 2", Check.query(new ShardGuard(), "many 10000"), -1000000002);
        Check.equal("code 3", Check.query(new ShardGuard(), "many ((((((("), -1000000003);
    }

    private static void many() {
        Check.says("Returns for 'many' the number of requests for which the test holds");
        is(new ShardGuard(), "many 0=0", 0);
        is(states(), "many 0=0", 7);
        is(states(), "many 0=1", 0);
        is(states(), "many request = 6", 1);
    }

    private static void first() {
        Check.says("for 'first' the smallest such request, or NONE");
        is(new ShardGuard(), "first 0=0", ShardGuard.NONE);
        is(new ShardGuard(), "first not 0=1", ShardGuard.NONE);
        is(states(), "first 0=0", 0);
        is(states(), "first 0=1", ShardGuard.NONE);
        is(states(), "first request > 2", 3);
        is(states(), "first request > 5", 6);
        is(states(), "first request > 6", ShardGuard.NONE);
    }

    private static void sixty() {
        Check.says("evaluates it for every request in ascending order");
        ShardGuard guard = Check.loaded("workers 2 size 1; tenant 1;");
        for (int i = 0; i < 60; i++) {
            guard.submit(0, 1 + i % 20, i > 31);
        }
        is(guard, "many 0=0", 60);
        is(guard, "many not 0=1", 60);
        is(guard, "many not 0=0", 0);
        is(guard, "first request > 58", 59);
        is(guard, "first request > 59", ShardGuard.NONE);
        is(guard, "first poisoned = 1", 32);
        is(guard, "many poisoned = 1", 28);
        is(guard, "first request > 30 and poisoned = 0", 31);
        is(guard, "first place = 59", 59);
        is(guard, "many cost = 20", 3);
        is(guard, "first not request < 32", 32);
        is(guard, "many worker = 2 and state = 0", 60);
    }

    private static void valueRange() {
        Check.says("value: a number from 0 to 9999");
        is(states(), "many 0 < 9999", 7);
        is(states(), "many 9999 > request", 7);
        is(states(), "many 9999 = 9999", 7);
        is(states(), "many 9998 = 9999", 0);
        is(states(), "many request < 0", 0);
        is(states(), "many request = 0", 1);
    }

    private static void valueOutOfRange() {
        Check.says("2: where a number can stand, a number that is out of range.");
        error("many 10000 = 0", 2, 5);
        error("many 0 = 10000", 2, 9);
        error("many 9999 < 10000", 2, 12);
        error("many 0=0 or 10000", 2, 12);
        error("many not 10000", 2, 9);
        error("many (10000", 2, 6);
        error("many cost = 99999", 2, 12);
        for (String number : new String[] {"100000", "100001", "2147483648", "4294967296", "4294967297",
            "18446744073709551616", "1" + "0".repeat(150)}) {
            error("many 0 = " + number, 2, 9);
            error("many " + number + " = 0", 2, 5);
        }
    }

    private static void leadingZeros() {
        Check.says("(leading zeros are allowed)");
        is(states(), "many " + "0".repeat(90) + "9999=" + "0".repeat(90) + "9999", 7);
        is(states(), "first request = 0006", 6);
        is(states(), "first request = 0000", 0);
        error("many 00010000=0", 2, 5);
    }

    private static void comparisons() {
        Check.says("value ('<' | '=' | '>') value");
        is(states(), "many request < 3", 3);
        is(states(), "many request = 3", 1);
        is(states(), "many request > 3", 3);
        is(states(), "many 3 < request", 3);
        is(states(), "many 3 = request", 1);
        is(states(), "many 3 > request", 3);
        is(states(), "many request < request", 0);
        is(states(), "many request > request", 0);
        is(states(), "many request = request", 7);
        error("many request <= 3", 1, 14);
        error("many request == 3", 1, 14);
        error("many request <> 3", 1, 14);
        error("many request ! 3", 1, 13);
    }

    private static void orAndNot() {
        Check.says("test: conjunction ('or' conjunction)*. conjunction: factor ('and' factor)*.");
        is(states(), "many request=1 or request=2 and request=3", 1);
        is(states(), "many request=1 and request=2 or request=3", 1);
        is(states(), "many (request=1 or request=2) and request=2", 1);
        is(states(), "many request=1 or request=2 or request=3 or request=4", 4);
        is(states(), "many request>1 and request>2 and request>3 and request<6", 2);
        is(states(), "many not request=1 and request=1", 0);
        is(states(), "many not (request=1 and request=2)", 7);
        is(states(), "many not request=1 or request=1", 7);
        is(states(), "many not(request=1 or request=1)", 6);
        is(states(), "many not not request=1", 1);
        is(states(), "many request=0 and not request=1 or not request=0 and request=1", 2);
    }

    private static void properties() {
        Check.says("'request' (its number), 'tenant', 'cost', 'rest', 'poisoned' (1 or 0), 'state', 'attempts'");
        ShardGuard guard = states();
        int[][] due = new int[7][];
        for (int request = 0; request < 7; request++) {
            due[request] = new int[] {request, guard.request(request, 0), guard.request(request, 1), guard.request(request, 2),
                guard.request(request, 3), guard.request(request, 4), guard.request(request, 5)};
        }
        // By hand: done, at work, behind it, parked, dropped, refused, parked.
        Check.equal("the states", due[0][5] + " " + due[1][5] + " " + due[2][5] + " " + due[3][5] + " " + due[4][5] + " "
            + due[5][5] + " " + due[6][5], "2 0 0 1 3 4 1");
        String[] names = {"request", "tenant", "cost", "rest", "poisoned", "state", "attempts"};
        for (int request = 0; request < 7; request++) {
            for (int name = 0; name < names.length; name++) {
                is(guard, "many request = " + request + " and " + names[name] + " = " + due[request][name], 1);
                is(guard, "many request = " + request + " and " + names[name] + " = " + (due[request][name] + 1), 0);
            }
        }
        is(guard, "many rest = 0", 2);
        is(guard, "first rest = 5", 5);
        is(guard, "first rest = 8", 1);
    }

    private static void workerAndPlace() {
        Check.says("'worker' (1 plus the worker in whose queue it is, 0 if there is none), 'place' (its place in this queue "
            + "from 0, or among the parked ones");
        ShardGuard guard = states();
        is(guard, "many worker = 0", 5);
        is(guard, "many worker = 1", 2);
        is(guard, "many worker > 1", 0);
        is(guard, "first worker = 1", 1);
        is(guard, "first worker = 1 and place = 1", 2);
        is(guard, "first state = 1 and place = 0", 3);
        is(guard, "first state = 1 and place = 1", 6);
        is(guard, "many place > 1", 0);
        ShardGuard last = Check.loaded("workers 12 size 1; tenant 11; request 0 1;");
        is(last, "many worker = 12", 1);
        is(last, "many worker = 11", 0);
    }

    private static void placeInOtherStates() {
        Check.says("0 in the other states)");
        ShardGuard guard = states();
        is(guard, "many state > 1 and place = 0", 3);
        is(guard, "many state > 1 and place > 0", 0);
        is(guard, "many state > 1 and worker = 0", 3);
        // The done one was at place 0 before; the refused one behind the dropped one.
        guard.pass(20);
        is(guard, "many state = 2 and place = 0 and worker = 0", 3);
    }

    private static void notAllowed() {
        Check.says("1: the token is not allowed here");
        String[] good = {"many", "not", "(", "cost", "=", "1", "or", "2", "<", "rest", ")", "and", "3", ">", "place"};
        String[] all = {"many", "first", "or", "and", "not", "(", ")", "<", "=", ">", "1", "cost", "x", ";", "workers", "-"};
        for (int place = 0; place <= good.length; place++) {
            StringBuilder before = new StringBuilder();
            for (int i = 0; i < place; i++) {
                before.append(good[i]).append(' ');
            }
            for (String token : all) {
                if (!mayStand(place, token)) {
                    error(before + token, 1, before.length());
                }
            }
        }
        error("Many 0=0", 1, 0);
        error("manys 0=0", 1, 0);
        error("many0=", 1, 6);
        error("many costs=0", 1, 5);
        error("many cos=0", 1, 5);
        error("many COST=0", 1, 5);
        is(states(), "many0=0", 7);
    }

    /** Tells whether a token may stand behind so many tokens of the query above. */
    private static boolean mayStand(int place, String token) {
        boolean isValue = token.equals("1") || token.equals("cost");
        boolean isSign = token.equals("<") || token.equals("=") || token.equals(">");
        boolean isJoint = token.equals("and") || token.equals("or");
        switch (place) {
            case 0: return token.equals("many") || token.equals("first");
            case 1: case 2: case 3: case 7: case 12: return isValue || token.equals("not") || token.equals("(");
            case 4: case 8: case 13: return isSign;
            case 5: case 9: case 14: return isValue;
            case 6: case 10: return isJoint || token.equals(")");
            default: return isJoint;
        }
    }

    private static void endsTooEarly() {
        Check.says("or the text ends too early (the position is then the length of the text)");
        String[] parts = {"", "many", "first", "many not", "many (", "many cost", "many 1", "many cost =", "many (cost = 1",
            "many cost = 1 and", "many cost = 1 or", "many (((((cost = 1", "many not not not not not not", "many ((0=0)",
            "many cost = 1 and not"};
        for (String part : parts) {
            error(part, 1, part.length());
            error(part + " \n", 1, part.length() + 2);
        }
        error(Check.filled("many", 200), 1, 200);
        is(states(), "many cost = 1 \n ", 1);
    }

    private static void seventhOpen() {
        Check.says("in a query a 'not' or '(' that would be the seventh one open at the same time");
        for (int nots = 0; nots <= 6; nots++) {
            // Each 'not' and each '(' is one; the order does not matter.
            String open = "not ".repeat(nots) + "(".repeat(6 - nots);
            String mixed = ("(".repeat(6 - nots) + "not ".repeat(nots));
            String close = ")".repeat(6 - nots);
            int due = nots % 2 == 0 ? 7 : 0;
            is(states(), "many " + open + "0=0" + close, due);
            is(states(), "many " + mixed + "0=0" + close, due);
            for (String seventh : new String[] {"not ", "("}) {
                error("many " + open + seventh + "0=0" + close, 3, 5 + open.length());
                error("many " + mixed + seventh + "0=0" + close, 3, 5 + mixed.length());
                error("many " + open + seventh, 3, 5 + open.length());
            }
            error("many " + open + "or", 1, 5 + open.length());
        }
    }

    private static void openUntilEnd() {
        Check.says("A 'not' is open until the end of its factor.");
        String six = "not not not not not not 0=0";
        is(states(), "many " + six + " and " + six + " or " + six, 7);
        is(states(), "many not(0=1) and not(0=1) and not(0=1) and not(0=1) and not(0=1) and not(0=1) and not(0=1)", 7);
        is(states(), "many ((((((0=0)))))) and ((((((0=0))))))", 7);
        is(states(), "many (((((not 0=1 or not 0=1)))))", 7);
        is(states(), "many (((((not 0=1) and not 0=1))))", 7);
        is(states(), "many not (((((0=1))))) and (((((( 0=0 ))))))", 7);
        // Behind the end of an inner factor the outer ones are still open.
        error("many not ((((not 0=0 and not 0=1 and not not 0=1))))", 3, 41);
        error("many (((((not 0=0 or (not 0=0))))))", 3, 22);
        error("many not(not 0=0 and not not not not not 0=0)", 3, 37);
        is(states(), "many not(not 0=0 and not not not not 0=0)", 7);
    }

    private static void smallestCode() {
        Check.says("If several codes apply to one token, the smallest one counts.");
        // The seventh one open where none may stand, and a number out of range where none may.
        error("many ((((((0 (", 1, 13);
        error("many ((((((0=0 not", 1, 15);
        error("many ((((((0=0 (", 1, 15);
        error("many ((((((0 not", 1, 13);
        error("many ((((((0=(", 1, 13);
        error("many 0=0 10000", 1, 9);
        error("many 0 10000", 1, 7);
        error("10000", 1, 0);
    }

    private static void firstError() {
        Check.says("the first token with an error determines the result");
        error("many 10000 ((((((( x", 2, 5);
        error("many ((((((( 10000", 3, 11);
        error("many x 10000 (((((((", 1, 5);
        error("many 0=0 # 10000", 1, 9);
        error("many 10000 = 20000", 2, 5);
    }
}
