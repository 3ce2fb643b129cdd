import java.util.ArrayList;
import java.util.List;

/**
 * The document written a second time, with lists of objects that are copied whole, as a measure for
 * ShardGuard. Its calls are those of ShardGuard; what would throw answers NO_SUCH or ILLEGAL.
 */
final class PlainModel {
    static final int NO_SUCH = -777777001;
    static final int ILLEGAL = -777777002;

    private static final int[][] RANGES = {{1, 50}, {0, 5}, {1, 9}, {1, 99}, {1, 999}};
    private static final String[] SETTINGS = {"restart", "retries", "limit", "window", "quarantine"};

    private static final class Request {
        int number;
        int tenant;
        int cost;
        int rest;
        boolean poisoned;
        int state;
        int attempts;
        int end = -1;
    }

    private static final class Worker {
        boolean up = true;
        int start = -1;
        List<Request> queue = new ArrayList<>();
    }

    private static final class Tenant {
        int shard;
        int quarantineEnd = -1;
        /** Times of the kills, and of those that step 6 still counts. */
        List<Integer> counted = new ArrayList<>();
        int[] killsOf = new int[12];
    }

    private static final class World {
        int size;
        int time;
        int[] settings = {5, 2, 3, 20, 50};
        List<Worker> workers = new ArrayList<>();
        List<Tenant> tenants = new ArrayList<>();
        List<Request> requests = new ArrayList<>();
        List<Request> parked = new ArrayList<>();

        World copy() {
            World other = new World();
            other.size = size;
            other.time = time;
            other.settings = settings.clone();
            for (Request r : requests) {
                Request q = new Request();
                q.number = r.number;
                q.tenant = r.tenant;
                q.cost = r.cost;
                q.rest = r.rest;
                q.poisoned = r.poisoned;
                q.state = r.state;
                q.attempts = r.attempts;
                q.end = r.end;
                other.requests.add(q);
            }
            for (Worker w : workers) {
                Worker v = new Worker();
                v.up = w.up;
                v.start = w.start;
                for (Request r : w.queue) {
                    v.queue.add(other.requests.get(r.number));
                }
                other.workers.add(v);
            }
            for (Tenant t : tenants) {
                Tenant s = new Tenant();
                s.shard = t.shard;
                s.quarantineEnd = t.quarantineEnd;
                s.counted.addAll(t.counted);
                s.killsOf = t.killsOf.clone();
                other.tenants.add(s);
            }
            for (Request r : parked) {
                other.parked.add(other.requests.get(r.number));
            }
            return other;
        }

        int load(int w) {
            int load = 0;
            for (Request r : workers.get(w).queue) {
                load += r.rest;
            }
            return load;
        }

        boolean cutOff(int t) {
            for (int w = 0; w < workers.size(); w++) {
                if ((tenants.get(t).shard & 1 << w) != 0 && workers.get(w).up) {
                    return false;
                }
            }
            return true;
        }

        void route(Request r) {
            r.rest = r.cost;
            int best = -1;
            for (int w = workers.size() - 1; w >= 0; w--) {
                boolean can = workers.get(w).up && (tenants.get(r.tenant).shard & 1 << w) != 0;
                if (can && (best < 0 || load(w) <= load(best))) {
                    best = w;
                }
            }
            if (best < 0) {
                r.state = 1;
                parked.add(r);
            } else {
                r.state = 0;
                workers.get(best).queue.add(r);
            }
        }

        Request make(int tenant, int cost, boolean poisoned) {
            Request r = new Request();
            r.number = requests.size();
            r.tenant = tenant;
            r.cost = cost;
            r.rest = cost;
            r.poisoned = poisoned;
            requests.add(r);
            if (tenants.get(tenant).quarantineEnd >= 0) {
                r.state = 4;
                r.end = time;
            } else {
                route(r);
            }
            return r;
        }

        int kills() {
            int sum = 0;
            for (Tenant t : tenants) {
                for (int n : t.killsOf) {
                    sum += n;
                }
            }
            return sum;
        }

        int count(Tenant t) {
            int n = 0;
            for (int at : t.counted) {
                if (at > time - settings[3]) {
                    n++;
                }
            }
            return n;
        }

        void tick() {
            time++;
            for (Worker w : workers) {
                if (!w.up && w.start <= time) {
                    w.up = true;
                    w.start = -1;
                }
            }
            for (Request r : new ArrayList<>(parked)) {
                if (!cutOff(r.tenant)) {
                    parked.remove(r);
                    route(r);
                }
            }
            List<Integer> killed = new ArrayList<>();
            for (int w = 0; w < workers.size(); w++) {
                Worker worker = workers.get(w);
                if (worker.up && !worker.queue.isEmpty()) {
                    Request r = worker.queue.get(0);
                    r.rest--;
                    if (r.rest == 0 && !r.poisoned) {
                        r.state = 2;
                        r.end = time;
                        worker.queue.remove(0);
                    } else if (r.rest == 0) {
                        killed.add(w);
                        worker.up = false;
                        worker.start = time + settings[0];
                        tenants.get(r.tenant).counted.add(time);
                        tenants.get(r.tenant).killsOf[w]++;
                    }
                }
            }
            for (int w : killed) {
                List<Request> left = workers.get(w).queue;
                workers.get(w).queue = new ArrayList<>();
                Request poison = left.remove(0);
                poison.attempts++;
                if (poison.attempts > settings[1]) {
                    poison.state = 3;
                    poison.end = time;
                } else {
                    route(poison);
                }
                for (Request r : left) {
                    route(r);
                }
            }
            for (Tenant t : tenants) {
                if (t.quarantineEnd == time) {
                    t.quarantineEnd = -1;
                }
            }
            for (int t = 0; t < tenants.size(); t++) {
                if (tenants.get(t).quarantineEnd < 0 && count(tenants.get(t)) >= settings[2]) {
                    quarantine(t);
                }
            }
        }

        private void quarantine(int number) {
            Tenant t = tenants.get(number);
            t.quarantineEnd = time + settings[4];
            t.counted.clear();
            for (Request r : requests) {
                if (r.tenant == number && r.state <= 1) {
                    r.state = 4;
                    r.end = time;
                    parked.remove(r);
                    for (Worker w : workers) {
                        w.queue.remove(r);
                    }
                }
            }
        }

        List<Integer> draw(long seed) {
            long x = seed;
            List<Integer> shards = new ArrayList<>();
            for (int t = 0; t < tenants.size(); t++) {
                List<Integer> free = new ArrayList<>();
                for (int w = 0; w < workers.size(); w++) {
                    free.add(w);
                }
                int shard = 0;
                while (Integer.bitCount(shard) < size) {
                    x = (x * 1103515245L + 12345L) % 2147483648L;
                    shard |= 1 << free.remove((int) (x / 65536 % free.size()));
                }
                shards.add(shard);
            }
            return shards;
        }

        List<Integer> shards() {
            List<Integer> shards = new ArrayList<>();
            for (Tenant t : tenants) {
                shards.add(t.shard);
            }
            return shards;
        }

        int workerOf(Request r) {
            for (int w = 0; w < workers.size(); w++) {
                if (workers.get(w).queue.contains(r)) {
                    return w;
                }
            }
            return -1;
        }
    }

    private World world = empty(2, 1);
    private World snapshot;
    private final List<World> history = new ArrayList<>();
    private String buffer = "";
    private int errorPosition = -1;
    private int error;
    private String formatted = "";

    private static World empty(int workers, int size) {
        World world = new World();
        world.size = size;
        for (int w = 0; w < workers; w++) {
            world.workers.add(new Worker());
        }
        return world;
    }

    private static int greatest(List<Integer> shards) {
        int greatest = 0;
        for (int a = 0; a < shards.size(); a++) {
            for (int b = a + 1; b < shards.size(); b++) {
                greatest = Math.max(greatest, Integer.bitCount(shards.get(a) & shards.get(b)));
            }
        }
        return greatest;
    }

    private void record() {
        history.add(world.copy());
        if (history.size() > 10) {
            history.remove(0);
        }
    }

    private boolean noTenant(int t) {
        return t < 0 || t >= world.tenants.size();
    }

    private boolean noWorker(int w) {
        return w < 0 || w >= world.workers.size();
    }

    int feed(int... five) {
        if (buffer.length() + 20 > 700) {
            return -1;
        }
        for (int four : five) {
            buffer += "" + (char) (four >> 24 & 255) + (char) (four >> 16 & 255) + (char) (four >> 8 & 255)
                + (char) (four & 255);
        }
        return buffer.length();
    }

    int errorPosition() {
        return errorPosition;
    }

    int size(int what) {
        int n = 0;
        switch (what) {
            case 0: return world.workers.size();
            case 1: return world.size;
            case 2: return world.tenants.size();
            case 3: return world.requests.size();
            case 4: return world.time;
            case 5:
                for (Worker w : world.workers) {
                    n += w.up ? 1 : 0;
                }
                return n;
            case 6: return world.parked.size();
            case 7: return world.kills();
            case 8:
                for (int t = 0; t < world.tenants.size(); t++) {
                    n += world.cutOff(t) ? 1 : 0;
                }
                return n;
            case 9:
                for (Tenant t : world.tenants) {
                    n += t.quarantineEnd >= 0 ? 1 : 0;
                }
                return n;
            default: return NO_SUCH;
        }
    }

    int setting(int what) {
        return what < 0 || what > 4 ? NO_SUCH : world.settings[what];
    }

    int worker(int number, int what) {
        if (noWorker(number) || what < 0 || what > 5) {
            return NO_SUCH;
        }
        Worker w = world.workers.get(number);
        int n = 0;
        switch (what) {
            case 0: return w.up ? 1 : 0;
            case 1: return w.start;
            case 2: return w.queue.size();
            case 3: return world.load(number);
            case 4:
                for (Tenant t : world.tenants) {
                    n += t.killsOf[number];
                }
                return n;
            default:
                for (Tenant t : world.tenants) {
                    n += t.shard >> number & 1;
                }
                return n;
        }
    }

    int tenant(int number, int what) {
        if (noTenant(number) || what < 0 || what > 8) {
            return NO_SUCH;
        }
        Tenant t = world.tenants.get(number);
        int all = 0;
        int done = 0;
        int refused = 0;
        for (Request r : world.requests) {
            if (r.tenant == number) {
                all++;
                done += r.state == 2 ? 1 : 0;
                refused += r.state == 4 ? 1 : 0;
            }
        }
        int kills = 0;
        for (int n : t.killsOf) {
            kills += n;
        }
        int[] cells = {t.shard, t.quarantineEnd >= 0 ? 1 : 0, t.quarantineEnd, all, done, refused, kills,
            world.count(t), world.cutOff(number) ? 1 : 0};
        return cells[what];
    }

    int request(int number, int what) {
        if (number < 0 || number >= world.requests.size() || what < 0 || what > 7) {
            return NO_SUCH;
        }
        Request r = world.requests.get(number);
        int[] cells = {r.tenant, r.cost, r.rest, r.poisoned ? 1 : 0, r.state, r.attempts, world.workerOf(r), r.end};
        return cells[what];
    }

    int queued(int number, int place) {
        if (noWorker(number) || place < 0 || place >= world.workers.get(number).queue.size()) {
            return NO_SUCH;
        }
        return world.workers.get(number).queue.get(place).number;
    }

    int parked(int place) {
        return place < 0 || place >= world.parked.size() ? NO_SUCH : world.parked.get(place).number;
    }

    int killsOf(int t, int w) {
        return noTenant(t) || noWorker(w) ? NO_SUCH : world.tenants.get(t).killsOf[w];
    }

    int killingPairs() {
        int n = 0;
        for (Tenant t : world.tenants) {
            for (int kills : t.killsOf) {
                n += kills > 0 ? 1 : 0;
            }
        }
        return n;
    }

    int overlap(int a, int b) {
        return noTenant(a) || noTenant(b) ? NO_SUCH
            : Integer.bitCount(world.tenants.get(a).shard & world.tenants.get(b).shard);
    }

    int covered(int a) {
        if (noTenant(a)) {
            return NO_SUCH;
        }
        int n = 0;
        for (int b = 0; b < world.tenants.size(); b++) {
            int all = world.tenants.get(b).shard;
            n += b != a && (all & world.tenants.get(a).shard) == all ? 1 : 0;
        }
        return n;
    }

    int greatestOverlap() {
        return greatest(world.shards());
    }

    int bestShard(int a) {
        if (noTenant(a)) {
            return NO_SUCH;
        }
        int best = -1;
        int bestGreatest = 99;
        int bestSum = 999;
        for (int mask = (1 << world.workers.size()) - 1; mask >= 0; mask--) {
            if (Integer.bitCount(mask) == world.size) {
                int greatest = 0;
                int sum = 0;
                for (int b = 0; b < world.tenants.size(); b++) {
                    int n = b == a ? 0 : Integer.bitCount(mask & world.tenants.get(b).shard);
                    greatest = Math.max(greatest, n);
                    sum += n;
                }
                if (greatest < bestGreatest || greatest == bestGreatest && sum <= bestSum) {
                    best = mask;
                    bestGreatest = greatest;
                    bestSum = sum;
                }
            }
        }
        return best;
    }

    int drawn(int t, int seed) {
        return noTenant(t) ? NO_SUCH : seed < 0 ? ILLEGAL : world.draw(seed).get(t);
    }

    int bestSeed() {
        int best = 99;
        for (int seed = 98; seed >= 0; seed--) {
            if (greatest(world.draw(seed)) <= greatest(world.draw(best))) {
                best = seed;
            }
        }
        return best;
    }

    private World poisoned(int tenant) {
        World only = empty(world.workers.size(), world.size);
        only.time = world.time;
        only.settings = world.settings.clone();
        for (int w = 0; w < world.workers.size(); w++) {
            only.workers.get(w).up = world.workers.get(w).up;
            only.workers.get(w).start = world.workers.get(w).start;
        }
        for (int shard : world.shards()) {
            Tenant t = new Tenant();
            t.shard = shard;
            only.tenants.add(t);
        }
        only.make(tenant, 1, true);
        return only;
    }

    int poisonKills(int tenant) {
        if (noTenant(tenant)) {
            return NO_SUCH;
        }
        World only = poisoned(tenant);
        for (int i = 0; i < 200; i++) {
            only.tick();
        }
        return only.kills();
    }

    int poisonHarm(int tenant) {
        if (noTenant(tenant)) {
            return NO_SUCH;
        }
        World only = poisoned(tenant);
        boolean[] harmed = new boolean[12];
        for (int i = 0; i < 200; i++) {
            only.tick();
            for (int t = 0; t < only.tenants.size(); t++) {
                harmed[t] |= t != tenant && only.cutOff(t);
            }
        }
        int n = 0;
        for (boolean one : harmed) {
            n += one ? 1 : 0;
        }
        return n;
    }

    int doneBehind(int ticks) {
        if (ticks < 0 || ticks > 200) {
            return ILLEGAL;
        }
        World later = world.copy();
        for (int i = 0; i < ticks; i++) {
            later.tick();
        }
        return done(later);
    }

    private static int done(World world) {
        int n = 0;
        for (Request r : world.requests) {
            n += r.state == 2 ? 1 : 0;
        }
        return n;
    }

    double meanOverlap() {
        int sum = 0;
        int pairs = 0;
        for (int a = 0; a < world.tenants.size(); a++) {
            for (int b = a + 1; b < world.tenants.size(); b++) {
                sum += overlap(a, b);
                pairs++;
            }
        }
        return pairs == 0 ? 0.0 : (double) sum / pairs;
    }

    float served() {
        return world.requests.isEmpty() ? 0f : (float) done(world) / (float) world.requests.size();
    }

    int submit(int t, int cost, boolean poisoned) {
        if (noTenant(t)) {
            return NO_SUCH;
        }
        if (cost < 1 || cost > 20) {
            return ILLEGAL;
        }
        if (world.requests.size() == 60) {
            return -3;
        }
        record();
        return world.make(t, cost, poisoned).number;
    }

    int pass(int ticks) {
        if (ticks < 1 || ticks > 100) {
            return ILLEGAL;
        }
        if (world.time + ticks > 9999) {
            return -2;
        }
        record();
        int before = world.kills();
        for (int i = 0; i < ticks; i++) {
            world.tick();
        }
        return world.kills() - before;
    }

    int kill(int number) {
        if (noWorker(number)) {
            return NO_SUCH;
        }
        if (!world.workers.get(number).up) {
            return -2;
        }
        record();
        Worker w = world.workers.get(number);
        w.up = false;
        w.start = world.time + world.settings[0];
        List<Request> left = w.queue;
        w.queue = new ArrayList<>();
        for (Request r : left) {
            world.route(r);
        }
        return size(5);
    }

    int move(int t, int shard) {
        if (noTenant(t)) {
            return NO_SUCH;
        }
        if (shard < 0 || shard >= 1 << world.workers.size()) {
            return ILLEGAL;
        }
        if (Integer.bitCount(shard) != world.size) {
            return -2;
        }
        record();
        int before = world.tenants.get(t).shard;
        world.tenants.get(t).shard = shard;
        return before;
    }

    int draw(int seed) {
        if (seed < 0) {
            return ILLEGAL;
        }
        record();
        List<Integer> shards = world.draw(seed);
        for (int t = 0; t < shards.size(); t++) {
            world.tenants.get(t).shard = shards.get(t);
        }
        return greatest(shards);
    }

    int release(int number) {
        if (noTenant(number)) {
            return NO_SUCH;
        }
        if (world.tenants.get(number).quarantineEnd < 0) {
            return -2;
        }
        record();
        Tenant t = world.tenants.get(number);
        int left = t.quarantineEnd - world.time;
        t.quarantineEnd = -1;
        return left;
    }

    int set(int what, int value) {
        if (what < 0 || what > 4) {
            return NO_SUCH;
        }
        if (value < RANGES[what][0] || value > RANGES[what][1]) {
            return ILLEGAL;
        }
        record();
        int before = world.settings[what];
        world.settings[what] = value;
        return before;
    }

    int format(int number) {
        if (noWorker(number)) {
            return NO_SUCH;
        }
        Worker w = world.workers.get(number);
        formatted = "w" + number + (w.up ? " up" : " down");
        for (Request r : w.queue) {
            formatted += " " + r.number + (r.poisoned ? "!" : "") + ":" + r.rest;
        }
        return formatted.length();
    }

    String lastFormatted() {
        return formatted;
    }

    int undoCount() {
        return history.size();
    }

    int undo() {
        if (history.isEmpty()) {
            return -1;
        }
        world = history.remove(history.size() - 1);
        return history.size();
    }

    void saveSnapshot() {
        snapshot = world.copy();
    }

    int restoreSnapshot() {
        if (snapshot == null) {
            return 0;
        }
        world = snapshot.copy();
        history.clear();
        return 1;
    }

    /** The tokens of a text as texts, and their positions; the last one is empty and stands at its end. */
    private final List<String> tokens = new ArrayList<>();
    private final List<Integer> positions = new ArrayList<>();

    private void split(String text) {
        tokens.clear();
        positions.clear();
        java.util.regex.Matcher m = java.util.regex.Pattern.compile("[a-z]+|[0-9]+|[^ \n]", java.util.regex.Pattern.DOTALL)
            .matcher(text);
        while (m.find()) {
            tokens.add(m.group());
            positions.add(m.start());
        }
        tokens.add("");
        positions.add(text.length());
    }

    private static boolean isNumber(String token) {
        return !token.isEmpty() && token.charAt(0) >= '0' && token.charAt(0) <= '9';
    }

    /** Answers 0 if a token is a number of a range, otherwise the error code. */
    private static int numberError(String token, int least, int greatest) {
        if (!isNumber(token)) {
            return 1;
        }
        java.math.BigInteger n = new java.math.BigInteger(token);
        boolean inside = n.compareTo(java.math.BigInteger.valueOf(least)) >= 0
            && n.compareTo(java.math.BigInteger.valueOf(greatest)) <= 0;
        return inside ? 0 : 2;
    }

    int load(int length) {
        if (length < 0 || length > buffer.length()) {
            return ILLEGAL;
        }
        split(buffer.substring(0, length));
        buffer = "";
        World read = readWorld();
        if (read == null) {
            return -10 - error;
        }
        errorPosition = -1;
        world = read;
        history.clear();
        snapshot = null;
        return world.tenants.size();
    }

    private static String wanted(String state) {
        return state.substring(1);
    }

    /**
     * Goes through the tokens as an automaton. States: a text behind '=' is the only token that fits; the
     * others name the kind of number or the place between two parts.
     */
    private World readWorld() {
        World read = null;
        String state = "=workers";
        int workers = 0;
        int setting = 0;
        int part = 0;
        int tenant = 0;
        int cost = 0;
        boolean poisoned = false;
        List<Integer> shard = new ArrayList<>();
        for (int i = 0; i < tokens.size(); i++) {
            String token = tokens.get(i);
            int code = 0;
            if (state.startsWith("=")) {
                code = token.equals(wanted(state)) ? 0 : 1;
                state = state.equals("=workers") ? "count" : "shardsize";
            } else if (state.equals("count")) {
                code = numberError(token, 2, 12);
                workers = code == 0 ? Integer.parseInt(token) : 0;
                state = "=size";
            } else if (state.equals("shardsize")) {
                code = numberError(token, 1, Math.min(4, workers));
                if (code == 0) {
                    read = empty(workers, Integer.parseInt(token));
                }
                state = "end";
            } else if (state.equals("setting")) {
                code = numberError(token, RANGES[setting][0], RANGES[setting][1]);
                if (code == 0) {
                    read.settings[setting] = Integer.parseInt(token);
                }
                state = "end";
            } else if (state.equals("worker")) {
                boolean enough = shard.size() == read.size;
                if (enough) {
                    code = token.equals(";") ? 0 : 1;
                    if (code == 0) {
                        Tenant made = new Tenant();
                        for (int w : shard) {
                            made.shard += 1 << w;
                        }
                        read.tenants.add(made);
                        state = "between";
                    }
                } else {
                    code = numberError(token, 0, workers - 1);
                    if (code == 0 && shard.contains(Integer.parseInt(token))) {
                        code = 4;
                    } else if (code == 0) {
                        shard.add(Integer.parseInt(token));
                    }
                }
            } else if (state.equals("tenant")) {
                code = numberError(token, 0, read.tenants.size() - 1);
                tenant = code == 0 ? Integer.parseInt(token) : 0;
                state = "cost";
            } else if (state.equals("cost")) {
                code = numberError(token, 1, 20);
                cost = code == 0 ? Integer.parseInt(token) : 0;
                poisoned = false;
                state = "poison";
            } else if (state.equals("poison") || state.equals("end")) {
                if (state.equals("poison") && token.equals("poisoned") && !poisoned) {
                    poisoned = true;
                } else {
                    code = token.equals(";") ? 0 : 1;
                    if (code == 0 && state.equals("poison")) {
                        read.make(tenant, cost, poisoned);
                    }
                    state = "between";
                }
            } else {
                // part: 0 settings, 1 tenants, 2 requests
                int named = java.util.Arrays.asList(SETTINGS).indexOf(token);
                if (named >= 0 && part == 0) {
                    setting = named;
                    state = "setting";
                } else if (token.equals("tenant") && part <= 1) {
                    part = 1;
                    code = read.tenants.size() == 12 ? 3 : 0;
                    shard.clear();
                    state = "worker";
                } else if (token.equals("request")) {
                    part = 2;
                    code = read.requests.size() == 60 ? 3 : 0;
                    state = "tenant";
                } else {
                    code = token.isEmpty() ? 0 : 1;
                }
            }
            if (code != 0) {
                error = code;
                errorPosition = positions.get(i);
                return null;
            }
        }
        return read;
    }

    private static final List<String> PROPERTIES = java.util.Arrays.asList("request", "tenant", "cost", "rest",
        "poisoned", "state", "attempts", "worker", "place");

    int query(int length) {
        if (length < 0 || length > 200 || length > buffer.length()) {
            return ILLEGAL;
        }
        split(buffer.substring(0, length));
        buffer = "";
        if (!isQuery()) {
            return -1000000000 - error;
        }
        errorPosition = -1;
        List<String> test = tokens.subList(1, tokens.size() - 1);
        int many = 0;
        int first = -1;
        for (Request r : world.requests) {
            if (holds(test, r)) {
                many++;
                first = first < 0 ? r.number : first;
            }
        }
        return tokens.get(0).equals("many") ? many : first;
    }

    /** An automaton with a stack of what is open, instead of the grammar's rules. */
    private boolean isQuery() {
        String open = "";
        String state = "start";
        for (int i = 0; i < tokens.size(); i++) {
            String token = tokens.get(i);
            int code = 0;
            boolean isValue = PROPERTIES.contains(token) || isNumber(token);
            boolean factorEnds = false;
            if (state.equals("start")) {
                code = token.equals("many") || token.equals("first") ? 0 : 1;
                state = "factor";
            } else if (state.equals("factor") && (token.equals("not") || token.equals("("))) {
                code = open.length() == 6 ? 3 : 0;
                open += token.charAt(0);
            } else if (state.equals("factor") || state.equals("right")) {
                code = !isValue ? 1 : isNumber(token) ? numberError(token, 0, 9999) : 0;
                factorEnds = state.equals("right");
                state = state.equals("factor") ? "sign" : "behind";
            } else if (state.equals("sign")) {
                code = token.equals("<") || token.equals("=") || token.equals(">") ? 0 : 1;
                state = "right";
            } else if (token.equals("and") || token.equals("or")) {
                state = "factor";
            } else if (token.equals(")") && open.endsWith("(")) {
                open = open.substring(0, open.length() - 1);
                factorEnds = true;
            } else {
                code = token.isEmpty() && open.isEmpty() ? 0 : 1;
            }
            while (factorEnds && open.endsWith("n")) {
                open = open.substring(0, open.length() - 1);
            }
            if (code != 0) {
                error = code;
                errorPosition = positions.get(i);
                return false;
            }
        }
        return true;
    }

    /** Splits at the last 'or' outside of brackets, then at the last 'and'. */
    private boolean holds(List<String> test, Request r) {
        for (String word : new String[] {"or", "and"}) {
            int depth = 0;
            for (int i = test.size() - 1; i >= 0; i--) {
                String token = test.get(i);
                depth += token.equals(")") ? 1 : token.equals("(") ? -1 : 0;
                if (depth == 0 && token.equals(word)) {
                    boolean left = holds(test.subList(0, i), r);
                    boolean right = holds(test.subList(i + 1, test.size()), r);
                    return word.equals("or") ? left || right : left && right;
                }
            }
        }
        if (test.get(0).equals("not")) {
            return !holds(test.subList(1, test.size()), r);
        }
        if (test.get(0).equals("(")) {
            return holds(test.subList(1, test.size() - 1), r);
        }
        int a = value(test.get(0), r);
        int b = value(test.get(2), r);
        return test.get(1).equals("<") ? a < b : test.get(1).equals("=") ? a == b : a > b;
    }

    private int value(String token, Request r) {
        if (isNumber(token)) {
            return Integer.parseInt(token);
        }
        int w = world.workerOf(r);
        int place = w >= 0 ? world.workers.get(w).queue.indexOf(r) : Math.max(0, world.parked.indexOf(r));
        int[] values = {r.number, r.tenant, r.cost, r.rest, r.poisoned ? 1 : 0, r.state, r.attempts, w + 1, place};
        return values[PROPERTIES.indexOf(token)];
    }
}
