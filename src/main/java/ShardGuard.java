import java.util.NoSuchElementException;

/**
 * Workers that serve the requests of several tenants, each tenant from a shard of its own, so that a
 * poisoned request reaches only the workers of one shard.
 */
public final class ShardGuard {
    /** There is no such value. */
    public static final int NONE = -1;
    /** Error results of query start here. */
    public static final int HIDDEN = -1000000000;

    private static final int FEWEST_WORKERS = 2;
    private static final int MOST_WORKERS = 12;
    private static final int GREATEST_SHARD = 4;
    private static final int MOST_TENANTS = 12;
    private static final int MOST_REQUESTS = 60;
    private static final int GREATEST_COST = 20;
    /** No request kills more often than this: with the most retries it is dropped by its 6th kill. */
    private static final int MOST_KILLS = MOST_REQUESTS * 6;
    private static final int LAST_TIME = 9999;
    private static final int MOST_TICKS = 100;
    private static final int TICKS_AHEAD = 200;
    private static final int MOST_UNDO = 10;
    private static final int SEEDS_TRIED = 100;

    private static final int MOST_BYTES = 700;
    private static final int LONGEST_QUERY = 200;
    private static final int GREATEST_VALUE = 9999;
    private static final int MOST_OPEN = 6;
    private static final int LOAD_ERRORS = -10;

    private static final int MISPLACED = 1;
    private static final int OUT_OF_RANGE = 2;
    private static final int TOO_MANY = 3;
    private static final int SAME_WORKER = 4;

    private static final int ERROR_FULL = -3;
    private static final int ERROR_STATE = -2;

    private static final int RESTART = 0;
    private static final int RETRIES = 1;
    private static final int LIMIT = 2;
    private static final int WINDOW = 3;
    private static final int QUARANTINE = 4;
    private static final int[] LEAST_SETTINGS = {1, 0, 1, 1, 1};
    private static final int[] GREATEST_SETTINGS = {50, 5, 9, 99, 999};
    private static final int[] USUAL_SETTINGS = {5, 2, 3, 20, 50};

    /** The columns of the table of requests stand in the order that request() numbers them. */
    private static final int TENANT = 0;
    private static final int COST = 1;
    private static final int REST = 2;
    private static final int POISONED = 3;
    private static final int STATE = 4;
    private static final int ATTEMPTS = 5;
    private static final int WORKER = 6;
    private static final int END = 7;
    private static final int REQUEST_COLUMNS = 8;

    private static final int QUEUED = 0;
    private static final int PARKED = 1;
    private static final int DONE = 2;
    private static final int DROPPED = 3;
    private static final int REFUSED = 4;

    private static final int SHARD = 0;
    private static final int QUARANTINE_END = 1;
    private static final int FORGIVEN = 2;
    private static final int TENANT_COLUMNS = 3;

    private final Fleet fleet = new Fleet();
    /** What a text is read into, and where ticks and draws that only might happen are tried out. */
    private final Fleet draft = new Fleet();
    private final Fleet snapshot = new Fleet();
    private boolean hasSnapshot = false;
    private final History history = new History();
    private final Tokens tokens = new Tokens();
    private final WorkerText formatted = new WorkerText();

    public ShardGuard() {
        fleet.begin(FEWEST_WORKERS, 1);
    }

    public int feed(int a, int b, int c, int d, int e) {
        if (tokens.filled + 20 > MOST_BYTES) {
            return NONE;
        }
        tokens.append(a);
        tokens.append(b);
        tokens.append(c);
        tokens.append(d);
        tokens.append(e);
        return tokens.filled;
    }

    public int load(int length) throws IllegalArgumentException {
        if (length < 0 || length > tokens.filled) {
            throw new IllegalArgumentException("the buffer has not that many bytes");
        }
        tokens.begin(length);
        FleetText.read(tokens, draft);
        if (!tokens.isGood()) {
            return LOAD_ERRORS - tokens.errorCode;
        }
        fleet.copyFrom(draft);
        history.clear();
        hasSnapshot = false;
        return fleet.tenants;
    }

    public int errorPosition() {
        return tokens.errorPlace;
    }

    public int size(int what) throws NoSuchElementException {
        switch (what) {
            case 0: return fleet.workers;
            case 1: return fleet.shardSize;
            case 2: return fleet.tenants;
            case 3: return fleet.requests;
            case 4: return fleet.time;
            case 5: return Integer.bitCount(fleet.upMask);
            case 6: return fleet.queueLength(NONE);
            case 7: return fleet.kills.count;
            case 8: return Integer.bitCount(fleet.cutOffMask());
            case 9: return fleet.quarantined();
            default: throw new NoSuchElementException("no such number of the whole");
        }
    }

    public int setting(int what) throws NoSuchElementException {
        needSetting(what);
        return fleet.settings.at(what);
    }

    public int worker(int worker, int what) throws NoSuchElementException {
        needWorker(worker);
        switch (what) {
            case 0: return fleet.isUp(worker) ? 1 : 0;
            case 1: return fleet.startTimes.at(worker);
            case 2: return fleet.queueLength(worker);
            case 3: return fleet.loadOf(worker);
            case 4: return fleet.kills.ofWorker(worker);
            case 5: return fleet.tenantsOn(worker);
            default: throw new NoSuchElementException("no such property of a worker");
        }
    }

    public int tenant(int tenant, int what) throws NoSuchElementException {
        needTenant(tenant);
        switch (what) {
            case 0: return fleet.shardOf(tenant);
            case 1: return fleet.isQuarantined(tenant) ? 1 : 0;
            case 2: return fleet.tenantTable.at(tenant, QUARANTINE_END);
            case 3: return fleet.requestsOf(tenant);
            case 4: return fleet.requestsOf(tenant, DONE);
            case 5: return fleet.requestsOf(tenant, REFUSED);
            case 6: return fleet.kills.ofTenant(tenant);
            case 7: return fleet.countedKills(tenant);
            case 8: return fleet.isCutOff(tenant) ? 1 : 0;
            default: throw new NoSuchElementException("no such property of a tenant");
        }
    }

    public int request(int request, int what) throws NoSuchElementException {
        if (request < 0 || request >= fleet.requests) {
            throw new NoSuchElementException("no such request");
        }
        if (what < 0 || what >= REQUEST_COLUMNS) {
            throw new NoSuchElementException("no such property of a request");
        }
        return fleet.requestTable.at(request, what);
    }

    public int queued(int worker, int place) throws NoSuchElementException {
        needWorker(worker);
        int request = fleet.waitingAt(worker, place);
        if (request == NONE) {
            throw new NoSuchElementException("no such place in the queue");
        }
        return request;
    }

    public int parked(int place) throws NoSuchElementException {
        int request = fleet.waitingAt(NONE, place);
        if (request == NONE) {
            throw new NoSuchElementException("no such place among the parked requests");
        }
        return request;
    }

    public int killsOf(int tenant, int worker) throws NoSuchElementException {
        needTenant(tenant);
        needWorker(worker);
        return fleet.kills.pairs.at(tenant, worker);
    }

    public int killingPairs() {
        return fleet.kills.pairsThatKilled();
    }

    public int overlap(int tenant, int other) throws NoSuchElementException {
        needTenant(tenant);
        needTenant(other);
        return fleet.sharedBy(tenant, other);
    }

    public int covered(int tenant) throws NoSuchElementException {
        needTenant(tenant);
        int shard = fleet.shardOf(tenant);
        int count = 0;
        for (int other = 0; other < fleet.tenants; other++) {
            if (other != tenant && (fleet.shardOf(other) & ~shard) == 0) {
                count++;
            }
        }
        return count;
    }

    public int greatestOverlap() {
        return fleet.greatestShared();
    }

    public int bestShard(int tenant) throws NoSuchElementException {
        needTenant(tenant);
        return fleet.leastSharedShard(tenant);
    }

    public int drawn(int tenant, int seed) throws NoSuchElementException, IllegalArgumentException {
        needTenant(tenant);
        needSeed(seed);
        draft.copyFrom(fleet);
        draft.drawShards(seed);
        return draft.shardOf(tenant);
    }

    public int bestSeed() {
        draft.copyFrom(fleet);
        int best = 0;
        int least = MOST_WORKERS;
        for (int seed = 0; seed < SEEDS_TRIED; seed++) {
            draft.drawShards(seed);
            int greatest = draft.greatestShared();
            if (greatest < least) {
                least = greatest;
                best = seed;
            }
        }
        return best;
    }

    public int poisonKills(int tenant) throws NoSuchElementException {
        needTenant(tenant);
        poisonDraft(tenant);
        for (int i = 0; i < TICKS_AHEAD; i++) {
            draft.tick();
        }
        return draft.kills.count;
    }

    public int poisonHarm(int tenant) throws NoSuchElementException {
        needTenant(tenant);
        poisonDraft(tenant);
        int harmed = 0;
        for (int i = 0; i < TICKS_AHEAD; i++) {
            draft.tick();
            harmed |= draft.cutOffMask();
        }
        return Integer.bitCount(harmed & ~(1 << tenant));
    }

    public int doneBehind(int ticks) throws IllegalArgumentException {
        if (ticks < 0 || ticks > TICKS_AHEAD) {
            throw new IllegalArgumentException("0 to 200 ticks");
        }
        draft.copyFrom(fleet);
        for (int i = 0; i < ticks; i++) {
            draft.tick();
        }
        return draft.done();
    }

    public double meanOverlap() {
        int pairs = fleet.tenants * (fleet.tenants - 1) / 2;
        if (pairs <= 0) {
            return 0.0;
        }
        int sum = 0;
        for (int tenant = 0; tenant < fleet.tenants; tenant++) {
            for (int other = 0; other < tenant; other++) {
                sum += fleet.sharedBy(tenant, other);
            }
        }
        return (double) sum / (double) pairs;
    }

    public float served() {
        if (fleet.requests <= 0) {
            return 0.0f;
        }
        return (float) fleet.done() / (float) fleet.requests;
    }

    public int submit(int tenant, int cost, boolean poisoned)
            throws NoSuchElementException, IllegalArgumentException {
        needTenant(tenant);
        if (cost < 1 || cost > GREATEST_COST) {
            throw new IllegalArgumentException("a cost is 1 to 20");
        }
        if (fleet.requests >= MOST_REQUESTS) {
            return ERROR_FULL;
        }
        history.keep(fleet);
        return fleet.addRequest(tenant, cost, poisoned);
    }

    public int pass(int ticks) throws IllegalArgumentException {
        if (ticks < 1 || ticks > MOST_TICKS) {
            throw new IllegalArgumentException("1 to 100 ticks");
        }
        if (fleet.time + ticks > LAST_TIME) {
            return ERROR_STATE;
        }
        history.keep(fleet);
        int before = fleet.kills.count;
        for (int i = 0; i < ticks; i++) {
            fleet.tick();
        }
        return fleet.kills.count - before;
    }

    public int kill(int worker) throws NoSuchElementException {
        needWorker(worker);
        if (!fleet.isUp(worker)) {
            return ERROR_STATE;
        }
        history.keep(fleet);
        fleet.takeDown(worker);
        fleet.routeQueue(worker);
        return Integer.bitCount(fleet.upMask);
    }

    public int move(int tenant, int shard) throws NoSuchElementException, IllegalArgumentException {
        needTenant(tenant);
        if (shard < 0 || shard > fleet.allWorkers()) {
            throw new IllegalArgumentException("the set has workers that there are not");
        }
        if (Integer.bitCount(shard) != fleet.shardSize) {
            return ERROR_STATE;
        }
        history.keep(fleet);
        int before = fleet.shardOf(tenant);
        fleet.tenantTable.put(tenant, SHARD, shard);
        return before;
    }

    public int draw(int seed) throws IllegalArgumentException {
        needSeed(seed);
        history.keep(fleet);
        fleet.drawShards(seed);
        return fleet.greatestShared();
    }

    public int release(int tenant) throws NoSuchElementException {
        needTenant(tenant);
        if (!fleet.isQuarantined(tenant)) {
            return ERROR_STATE;
        }
        history.keep(fleet);
        int left = fleet.tenantTable.at(tenant, QUARANTINE_END) - fleet.time;
        fleet.tenantTable.put(tenant, QUARANTINE_END, NONE);
        return left;
    }

    public int set(int what, int value) throws NoSuchElementException, IllegalArgumentException {
        needSetting(what);
        if (value < leastSetting(what) || value > greatestSetting(what)) {
            throw new IllegalArgumentException("the setting cannot have this value");
        }
        history.keep(fleet);
        int before = fleet.settings.at(what);
        fleet.settings.put(what, value);
        return before;
    }

    public int format(int worker) throws NoSuchElementException {
        needWorker(worker);
        formatted.write(fleet, worker);
        return formatted.length;
    }

    public int formattedByte(int index) {
        return index >= 0 && index < formatted.length ? formatted.bytes.at(index) : NONE;
    }

    public int undoCount() {
        return history.count;
    }

    public int undo() {
        return history.takeBack(fleet) ? history.count : NONE;
    }

    public void saveSnapshot() {
        snapshot.copyFrom(fleet);
        hasSnapshot = true;
    }

    public boolean restoreSnapshot() {
        if (!hasSnapshot) {
            return false;
        }
        fleet.copyFrom(snapshot);
        history.clear();
        return true;
    }

    public int query(int length) throws IllegalArgumentException {
        if (length < 0 || length > LONGEST_QUERY || length > tokens.filled) {
            throw new IllegalArgumentException("no query of this length can be read");
        }
        tokens.begin(length);
        boolean many = tokens.is("many");
        tokens.take(many ? "many" : "first");
        long held = QueryText.test(tokens, fleet, 0);
        tokens.takeEnd();
        if (!tokens.isGood()) {
            return HIDDEN - tokens.errorCode;
        }
        if (many) {
            return Long.bitCount(held);
        }
        return held == 0L ? NONE : Long.numberOfTrailingZeros(held);
    }

    private void needWorker(int worker) {
        if (worker < 0 || worker >= fleet.workers) {
            throw new NoSuchElementException("no such worker");
        }
    }

    private void needTenant(int tenant) {
        if (tenant < 0 || tenant >= fleet.tenants) {
            throw new NoSuchElementException("no such tenant");
        }
    }

    private static void needSetting(int what) {
        if (what < RESTART || what > QUARANTINE) {
            throw new NoSuchElementException("no such setting");
        }
    }

    private static void needSeed(int seed) {
        if (seed < 0) {
            throw new IllegalArgumentException("a seed is not negative");
        }
    }

    /** Makes the draft the fleet with nothing but one poisoned request of a tenant. */
    private void poisonDraft(int tenant) {
        draft.copyFrom(fleet);
        draft.forgetRequests();
        draft.addRequest(tenant, 1, true);
    }

    private static int leastSetting(int what) {
        return what >= 0 && what < LEAST_SETTINGS.length ? LEAST_SETTINGS[what] : 0;
    }

    private static int greatestSetting(int what) {
        return what >= 0 && what < GREATEST_SETTINGS.length ? GREATEST_SETTINGS[what] : 0;
    }

    /** A row of numbers; a place outside of it reads as 0 and is not written, so no index can fail. */
    private static final class Row {
        private final int[] cells;

        Row(int length) {
            cells = new int[length > 0 ? length : 0];
        }

        int at(int place) {
            return place >= 0 && place < cells.length ? cells[place] : 0;
        }

        void put(int place, int value) {
            if (place >= 0 && place < cells.length) {
                cells[place] = value;
            }
        }

        /** Moves all behind a place one place forward, over what stood there. */
        void closeGap(int place) {
            if (place >= 0 && place < cells.length) {
                System.arraycopy(cells, place + 1, cells, place, cells.length - place - 1);
            }
        }

        void copyFrom(Row other) {
            System.arraycopy(other.cells, 0, cells, 0, Math.min(cells.length, other.cells.length));
        }
    }

    /** Numbers in rows and columns; a cell outside of them reads as 0 and is not written. */
    private static final class Table {
        private final int rows;
        private final int columns;
        private final int[] cells;

        Table(int rows, int columns) {
            this.rows = rows > 0 ? rows : 0;
            this.columns = columns > 0 ? columns : 0;
            cells = new int[this.rows * this.columns];
        }

        int at(int row, int column) {
            int place = row * columns + column;
            boolean inside = row >= 0 && row < rows && column >= 0 && column < columns;
            return inside && place >= 0 && place < cells.length ? cells[place] : 0;
        }

        void put(int row, int column, int value) {
            int place = row * columns + column;
            boolean inside = row >= 0 && row < rows && column >= 0 && column < columns;
            if (inside && place >= 0 && place < cells.length) {
                cells[place] = value;
            }
        }

        void add(int row, int column, int more) {
            put(row, column, at(row, column) + more);
        }

        void clear() {
            for (int i = 0; i < cells.length; i++) {
                cells[i] = 0;
            }
        }

        void copyFrom(Table other) {
            System.arraycopy(other.cells, 0, cells, 0, Math.min(cells.length, other.cells.length));
        }
    }

    /** The kills that requests made, in the order in which they were made. */
    private static final class KillLog {
        int count;
        final Row times = new Row(MOST_KILLS);
        final Row tenants = new Row(MOST_KILLS);
        final Table pairs = new Table(MOST_TENANTS, MOST_WORKERS);

        void clear() {
            count = 0;
            pairs.clear();
        }

        void copyFrom(KillLog other) {
            count = other.count;
            times.copyFrom(other.times);
            tenants.copyFrom(other.tenants);
            pairs.copyFrom(other.pairs);
        }

        void add(int tenant, int worker, int time) {
            times.put(count, time);
            tenants.put(count, tenant);
            count++;
            pairs.add(tenant, worker, 1);
        }

        /** Answers how many kills of a tenant were made at times greater than a time. */
        int behind(int time, int tenant) {
            int found = 0;
            for (int i = count - 1; i >= 0 && times.at(i) > time; i--) {
                if (tenants.at(i) == tenant) {
                    found++;
                }
            }
            return found;
        }

        int ofTenant(int tenant) {
            int sum = 0;
            for (int worker = 0; worker < MOST_WORKERS; worker++) {
                sum += pairs.at(tenant, worker);
            }
            return sum;
        }

        int ofWorker(int worker) {
            int sum = 0;
            for (int tenant = 0; tenant < MOST_TENANTS; tenant++) {
                sum += pairs.at(tenant, worker);
            }
            return sum;
        }

        int pairsThatKilled() {
            int found = 0;
            for (int tenant = 0; tenant < MOST_TENANTS; tenant++) {
                for (int worker = 0; worker < MOST_WORKERS; worker++) {
                    if (pairs.at(tenant, worker) > 0) {
                        found++;
                    }
                }
            }
            return found;
        }
    }

    /** Everything that undoing restores: workers, tenants, requests, settings, the time and the kills. */
    private static final class Fleet {
        int workers;
        int shardSize;
        int tenants;
        int requests;
        int time;
        int upMask;
        final Row settings = new Row(QUARANTINE + 1);
        final Row startTimes = new Row(MOST_WORKERS);
        final Table tenantTable = new Table(MOST_TENANTS, TENANT_COLUMNS);
        final Table requestTable = new Table(MOST_REQUESTS, REQUEST_COLUMNS);
        final KillLog kills = new KillLog();
        /**
         * All requests that are queued or parked, in the order in which they were routed. The queue of a
         * worker is what of this line has this worker, the parked ones are what has none.
         */
        private final Row line = new Row(MOST_REQUESTS);
        private int waiting;

        /** Makes this a fleet without tenants that has done nothing yet. */
        void begin(int workers, int shardSize) {
            this.workers = workers;
            this.shardSize = shardSize;
            tenants = 0;
            time = 0;
            upMask = allWorkers();
            for (int worker = 0; worker < MOST_WORKERS; worker++) {
                startTimes.put(worker, NONE);
            }
            for (int what = 0; what < USUAL_SETTINGS.length; what++) {
                settings.put(what, USUAL_SETTINGS[what]);
            }
            forgetRequests();
        }

        /** Leaves workers, shards, settings and the time, but no requests, kills and quarantines. */
        void forgetRequests() {
            requests = 0;
            waiting = 0;
            kills.clear();
            for (int tenant = 0; tenant < MOST_TENANTS; tenant++) {
                tenantTable.put(tenant, QUARANTINE_END, NONE);
                tenantTable.put(tenant, FORGIVEN, 0);
            }
        }

        void copyFrom(Fleet other) {
            workers = other.workers;
            shardSize = other.shardSize;
            tenants = other.tenants;
            requests = other.requests;
            time = other.time;
            upMask = other.upMask;
            settings.copyFrom(other.settings);
            startTimes.copyFrom(other.startTimes);
            tenantTable.copyFrom(other.tenantTable);
            requestTable.copyFrom(other.requestTable);
            kills.copyFrom(other.kills);
            line.copyFrom(other.line);
            waiting = other.waiting;
        }

        void addTenant(int shard) {
            tenantTable.put(tenants, SHARD, shard);
            tenants++;
        }

        int addRequest(int tenant, int cost, boolean poisoned) {
            int request = requests;
            requests++;
            requestTable.put(request, TENANT, tenant);
            requestTable.put(request, COST, cost);
            requestTable.put(request, REST, cost);
            requestTable.put(request, POISONED, poisoned ? 1 : 0);
            requestTable.put(request, ATTEMPTS, 0);
            requestTable.put(request, END, NONE);
            if (isQuarantined(tenant)) {
                end(request, REFUSED);
            } else {
                route(request);
            }
            return request;
        }

        int allWorkers() {
            return (1 << workers) - 1;
        }

        boolean isUp(int worker) {
            return has(upMask, worker);
        }

        int shardOf(int tenant) {
            return tenantTable.at(tenant, SHARD);
        }

        boolean isCutOff(int tenant) {
            return (shardOf(tenant) & upMask) == 0;
        }

        boolean isQuarantined(int tenant) {
            return tenantTable.at(tenant, QUARANTINE_END) != NONE;
        }

        /** Answers the tenants that are cut off, a bit each. */
        int cutOffMask() {
            int mask = 0;
            for (int tenant = 0; tenant < tenants; tenant++) {
                if (isCutOff(tenant)) {
                    mask |= 1 << tenant;
                }
            }
            return mask;
        }

        int quarantined() {
            int count = 0;
            for (int tenant = 0; tenant < tenants; tenant++) {
                if (isQuarantined(tenant)) {
                    count++;
                }
            }
            return count;
        }

        int tenantsOn(int worker) {
            int count = 0;
            for (int tenant = 0; tenant < tenants; tenant++) {
                if (has(shardOf(tenant), worker)) {
                    count++;
                }
            }
            return count;
        }

        int requestsOf(int tenant) {
            int count = 0;
            for (int request = 0; request < requests; request++) {
                if (requestTable.at(request, TENANT) == tenant) {
                    count++;
                }
            }
            return count;
        }

        int requestsOf(int tenant, int state) {
            int count = 0;
            for (int request = 0; request < requests; request++) {
                if (requestTable.at(request, TENANT) == tenant && requestTable.at(request, STATE) == state) {
                    count++;
                }
            }
            return count;
        }

        int done() {
            int count = 0;
            for (int request = 0; request < requests; request++) {
                if (requestTable.at(request, STATE) == DONE) {
                    count++;
                }
            }
            return count;
        }

        /** Answers the kills by a tenant's requests that may still bring it into quarantine. */
        int countedKills(int tenant) {
            int windowStart = time - settings.at(WINDOW);
            return kills.behind(Math.max(windowStart, tenantTable.at(tenant, FORGIVEN)), tenant);
        }

        /** Answers how many requests are in a worker's queue, or are parked for NONE. */
        int queueLength(int worker) {
            int length = 0;
            for (int i = 0; i < waiting; i++) {
                if (requestTable.at(line.at(i), WORKER) == worker) {
                    length++;
                }
            }
            return length;
        }

        int loadOf(int worker) {
            int load = 0;
            for (int i = 0; i < waiting; i++) {
                if (requestTable.at(line.at(i), WORKER) == worker) {
                    load += requestTable.at(line.at(i), REST);
                }
            }
            return load;
        }

        /** Answers the request at a place of a worker's queue, for NONE of the parked ones; or NONE. */
        int waitingAt(int worker, int place) {
            int left = place;
            for (int i = 0; i < waiting && left >= 0; i++) {
                int request = line.at(i);
                if (requestTable.at(request, WORKER) == worker) {
                    if (left == 0) {
                        return request;
                    }
                    left--;
                }
            }
            return NONE;
        }

        /** Answers the place of a request in its queue or among the parked ones; 0 if it does not wait. */
        int placeOf(int request) {
            int worker = requestTable.at(request, WORKER);
            int place = 0;
            for (int i = 0; i < waiting; i++) {
                if (line.at(i) == request) {
                    return place;
                }
                if (requestTable.at(line.at(i), WORKER) == worker) {
                    place++;
                }
            }
            return 0;
        }

        void tick() {
            time++;
            startWorkers();
            routeParked();
            int killed = work();
            for (int worker = 0; worker < workers; worker++) {
                if (has(killed, worker)) {
                    retryKiller(waitingAt(worker, 0));
                    routeQueue(worker);
                }
            }
            endQuarantines();
            beginQuarantines();
        }

        void takeDown(int worker) {
            upMask &= ~(1 << worker);
            startTimes.put(worker, time + settings.at(RESTART));
        }

        /** Routes all requests of a worker that is down, in their order. */
        void routeQueue(int worker) {
            int place = 0;
            for (int left = waiting; left > 0; left--) {
                int request = line.at(place);
                if (requestTable.at(request, WORKER) == worker) {
                    leaveLine(place);
                    route(request);
                } else {
                    place++;
                }
            }
        }

        private void startWorkers() {
            for (int worker = 0; worker < workers; worker++) {
                if (!isUp(worker) && startTimes.at(worker) <= time) {
                    upMask |= 1 << worker;
                    startTimes.put(worker, NONE);
                }
            }
        }

        private void routeParked() {
            int place = 0;
            for (int left = waiting; left > 0; left--) {
                int request = line.at(place);
                if (requestTable.at(request, STATE) == PARKED && !isCutOff(requestTable.at(request, TENANT))) {
                    leaveLine(place);
                    route(request);
                } else {
                    place++;
                }
            }
        }

        /** Lets each worker do its first request; answers the workers that were killed. */
        private int work() {
            int upBefore = upMask;
            int busy = 0;
            int place = 0;
            for (int left = waiting; left > 0; left--) {
                int request = line.at(place);
                int worker = requestTable.at(request, WORKER);
                boolean isFirst = worker != NONE && !has(busy, worker);
                if (isFirst) {
                    busy |= 1 << worker;
                    requestTable.add(request, REST, -1);
                }
                if (isFirst && requestTable.at(request, REST) <= 0 && finish(request, worker)) {
                    leaveLine(place);
                } else {
                    place++;
                }
            }
            return upBefore & ~upMask;
        }

        /** Ends a request without a rest; a poisoned one kills its worker instead, and the answer is false. */
        private boolean finish(int request, int worker) {
            if (requestTable.at(request, POISONED) == 0) {
                end(request, DONE);
                return true;
            }
            kills.add(requestTable.at(request, TENANT), worker, time);
            takeDown(worker);
            return false;
        }

        /** Drops a request that has just killed its worker, or routes it once more. */
        private void retryKiller(int request) {
            leaveLine(placeInLine(request));
            requestTable.add(request, ATTEMPTS, 1);
            if (requestTable.at(request, ATTEMPTS) > settings.at(RETRIES)) {
                end(request, DROPPED);
            } else {
                route(request);
            }
        }

        private void endQuarantines() {
            for (int tenant = 0; tenant < tenants; tenant++) {
                if (tenantTable.at(tenant, QUARANTINE_END) == time) {
                    tenantTable.put(tenant, QUARANTINE_END, NONE);
                }
            }
        }

        private void beginQuarantines() {
            for (int tenant = 0; tenant < tenants; tenant++) {
                if (!isQuarantined(tenant) && countedKills(tenant) >= settings.at(LIMIT)) {
                    tenantTable.put(tenant, QUARANTINE_END, time + settings.at(QUARANTINE));
                    tenantTable.put(tenant, FORGIVEN, time);
                    refuseAll(tenant);
                }
            }
        }

        private void refuseAll(int tenant) {
            int place = 0;
            for (int left = waiting; left > 0; left--) {
                int request = line.at(place);
                if (requestTable.at(request, TENANT) == tenant) {
                    leaveLine(place);
                    end(request, REFUSED);
                } else {
                    place++;
                }
            }
        }

        /** Puts a request that is not in the line behind all others. */
        private void route(int request) {
            int worker = leastLoaded(shardOf(requestTable.at(request, TENANT)));
            requestTable.put(request, REST, requestTable.at(request, COST));
            requestTable.put(request, STATE, worker == NONE ? PARKED : QUEUED);
            requestTable.put(request, WORKER, worker);
            line.put(waiting, request);
            waiting++;
        }

        /** Answers the worker of a shard that is up and has the least load, or NONE. */
        private int leastLoaded(int shard) {
            int best = NONE;
            int leastLoad = 0;
            for (int worker = 0; worker < workers; worker++) {
                if (has(shard & upMask, worker)) {
                    int load = loadOf(worker);
                    if (best == NONE || load < leastLoad) {
                        best = worker;
                        leastLoad = load;
                    }
                }
            }
            return best;
        }

        private void end(int request, int state) {
            requestTable.put(request, STATE, state);
            requestTable.put(request, WORKER, NONE);
            requestTable.put(request, END, time);
        }

        private int placeInLine(int request) {
            for (int i = 0; i < waiting; i++) {
                if (line.at(i) == request) {
                    return i;
                }
            }
            return NONE;
        }

        private void leaveLine(int place) {
            if (place >= 0 && place < waiting) {
                line.closeGap(place);
                waiting--;
            }
        }

        int sharedBy(int tenant, int other) {
            return Integer.bitCount(shardOf(tenant) & shardOf(other));
        }

        int greatestShared() {
            int greatest = 0;
            for (int tenant = 0; tenant < tenants; tenant++) {
                for (int other = 0; other < tenant; other++) {
                    greatest = Math.max(greatest, sharedBy(tenant, other));
                }
            }
            return greatest;
        }

        /** Answers the best shard of a tenant. */
        int leastSharedShard(int tenant) {
            int best = NONE;
            int least = 0;
            for (int shard = 0; shard <= allWorkers(); shard++) {
                if (Integer.bitCount(shard) == shardSize) {
                    int cost = sharingCost(tenant, shard);
                    if (best == NONE || cost < least) {
                        least = cost;
                        best = shard;
                    }
                }
            }
            return best;
        }

        /** Weighs a shard by its greatest overlap first, then by the sum, which stays below 100. */
        private int sharingCost(int tenant, int shard) {
            int greatest = 0;
            int sum = 0;
            for (int other = 0; other < tenants; other++) {
                if (other != tenant) {
                    int shared = Integer.bitCount(shard & shardOf(other));
                    greatest = Math.max(greatest, shared);
                    sum += shared;
                }
            }
            return greatest * 100 + sum;
        }

        void drawShards(int seed) {
            int x = seed;
            for (int tenant = 0; tenant < tenants; tenant++) {
                int shard = 0;
                for (int size = 0; size < shardSize; size++) {
                    // Ints wrap modulo 2 to the 32nd, so the mask leaves the rest modulo 2147483648.
                    x = (x * 1103515245 + 12345) & 0x7fffffff;
                    shard |= freeWorker(shard, x / 65536);
                }
                tenantTable.put(tenant, SHARD, shard);
            }
        }

        /** Answers the bit of the worker that a drawn number picks among those not in a shard. */
        private int freeWorker(int shard, int drawn) {
            int free = workers - Integer.bitCount(shard);
            if (free <= 0) {
                return 0;
            }
            int place = drawn % free;
            for (int worker = 0; worker < workers; worker++) {
                if (!has(shard, worker)) {
                    if (place == 0) {
                        return 1 << worker;
                    }
                    place--;
                }
            }
            return 0;
        }

        private static boolean has(int mask, int worker) {
            return (mask >> worker & 1) == 1;
        }
    }

    /** What the fleet was before each of the most recent operations. */
    private static final class History {
        int count = 0;
        private int next = 0;
        private final Fleet[] kept = new Fleet[MOST_UNDO];

        void clear() {
            count = 0;
        }

        void keep(Fleet fleet) {
            if (next < 0 || next >= kept.length) {
                return;
            }
            Fleet before = kept[next];
            if (before == null) {
                before = new Fleet();
                kept[next] = before;
            }
            before.copyFrom(fleet);
            next = (next + 1) % MOST_UNDO;
            count = Math.min(count + 1, MOST_UNDO);
        }

        /** Makes a fleet what it was before the most recent operation; false if there is none. */
        boolean takeBack(Fleet fleet) {
            int last = (next + MOST_UNDO - 1) % MOST_UNDO;
            if (count <= 0 || last < 0 || last >= kept.length) {
                return false;
            }
            Fleet before = kept[last];
            if (before == null) {
                return false;
            }
            fleet.copyFrom(before);
            next = last;
            count--;
            return true;
        }
    }

    /** The byte buffer, and the tokens of the text that is read from it. */
    private static final class Tokens {
        private static final int NOTHING = 0;
        private static final int LETTERS = 1;
        private static final int DIGITS = 2;
        private static final int SIGN = 3;
        /** Greater than all numbers that may stand in a text, and far from an overflow. */
        private static final int TOO_GREAT = 100000;

        int filled = 0;
        int errorCode = 0;
        int errorPlace = NONE;
        private final Row bytes = new Row(MOST_BYTES);
        private int length = 0;
        private int start = 0;
        private int end = 0;
        private int kind = NOTHING;
        private int number = 0;

        void append(int four) {
            for (int shift = 24; shift >= 0; shift -= 8) {
                bytes.put(filled, four >>> shift & 255);
                filled++;
            }
        }

        /** Starts to read the first bytes of the buffer, which counts as empty from then on. */
        void begin(int length) {
            this.length = length;
            filled = 0;
            errorCode = 0;
            errorPlace = NONE;
            end = 0;
            advance();
        }

        boolean isGood() {
            return errorCode == 0;
        }

        /** Tells whether the next token is a certain word or sign; never so behind an error. */
        boolean is(String text) {
            if (!isGood() || end - start != text.length()) {
                return false;
            }
            for (int i = 0; i < text.length(); i++) {
                if (bytes.at(start + i) != text.charAt(i)) {
                    return false;
                }
            }
            return true;
        }

        /** Tells whether the next token is one of the numbers that are marked in a mask. */
        boolean isNumberIn(int mask) {
            return kind == DIGITS && number < MOST_WORKERS && (mask >> number & 1) == 1;
        }

        void take(String text) {
            if (is(text)) {
                advance();
            } else {
                fail(MISPLACED);
            }
        }

        /** Takes a number and answers it, NONE if there is an error. */
        int takeNumber(int least, int greatest) {
            int taken = number;
            if (kind != DIGITS) {
                fail(MISPLACED);
            } else if (taken < least || taken > greatest) {
                fail(OUT_OF_RANGE);
            }
            if (!isGood()) {
                return NONE;
            }
            advance();
            return taken;
        }

        void takeEnd() {
            if (kind != NOTHING) {
                fail(MISPLACED);
            }
        }

        void fail(int code) {
            if (isGood()) {
                errorCode = code;
                errorPlace = start;
            }
        }

        /** Goes to the next token; behind the last one that is nothing, at the end of the text. */
        void advance() {
            start = end;
            while (start < length && isBlank(bytes.at(start))) {
                start++;
            }
            end = start;
            kind = NOTHING;
            if (start < length) {
                kind = kindOf(bytes.at(start));
                end++;
            }
            while (end < length && kind != SIGN && kindOf(bytes.at(end)) == kind) {
                end++;
            }
            number = 0;
            for (int i = start; i < end && kind == DIGITS; i++) {
                number = Math.min(number * 10 + bytes.at(i) - '0', TOO_GREAT);
            }
        }

        private static boolean isBlank(int sign) {
            return sign == ' ' || sign == '\n';
        }

        private static int kindOf(int sign) {
            if (sign >= 'a' && sign <= 'z') {
                return LETTERS;
            }
            return sign >= '0' && sign <= '9' ? DIGITS : SIGN;
        }
    }

    /** Reads a text into a fleet; behind an error the rest reads nothing and the fleet is of no use. */
    private static final class FleetText {
        static void read(Tokens tokens, Fleet draft) {
            readWorkers(tokens, draft);
            readSettings(tokens, draft);
            readTenants(tokens, draft);
            readRequests(tokens, draft);
            tokens.takeEnd();
        }

        private static void readWorkers(Tokens tokens, Fleet draft) {
            tokens.take("workers");
            int workers = tokens.takeNumber(FEWEST_WORKERS, MOST_WORKERS);
            tokens.take("size");
            int size = tokens.takeNumber(1, Math.min(GREATEST_SHARD, workers));
            tokens.take(";");
            if (tokens.isGood()) {
                draft.begin(workers, size);
            }
        }

        private static void readSettings(Tokens tokens, Fleet draft) {
            int what = settingNamed(tokens);
            for (int i = 0; i < MOST_BYTES && what != NONE; i++) {
                tokens.advance();
                draft.settings.put(what, tokens.takeNumber(leastSetting(what), greatestSetting(what)));
                tokens.take(";");
                what = settingNamed(tokens);
            }
        }

        private static int settingNamed(Tokens tokens) {
            if (tokens.is("restart")) {
                return RESTART;
            }
            if (tokens.is("retries")) {
                return RETRIES;
            }
            if (tokens.is("limit")) {
                return LIMIT;
            }
            if (tokens.is("window")) {
                return WINDOW;
            }
            return tokens.is("quarantine") ? QUARANTINE : NONE;
        }

        private static void readTenants(Tokens tokens, Fleet draft) {
            for (int i = 0; i <= MOST_TENANTS && tokens.is("tenant"); i++) {
                if (i == MOST_TENANTS) {
                    tokens.fail(TOO_MANY);
                } else {
                    tokens.advance();
                    draft.addTenant(takeShard(tokens, draft));
                    tokens.take(";");
                }
            }
        }

        private static int takeShard(Tokens tokens, Fleet draft) {
            int shard = 0;
            for (int i = 0; i < draft.shardSize; i++) {
                if (tokens.isNumberIn(shard)) {
                    tokens.fail(SAME_WORKER);
                }
                int worker = tokens.takeNumber(0, draft.workers - 1);
                if (worker != NONE) {
                    shard |= 1 << worker;
                }
            }
            return shard;
        }

        private static void readRequests(Tokens tokens, Fleet draft) {
            for (int i = 0; i <= MOST_REQUESTS && tokens.is("request"); i++) {
                if (i == MOST_REQUESTS) {
                    tokens.fail(TOO_MANY);
                } else {
                    tokens.advance();
                    int tenant = tokens.takeNumber(0, draft.tenants - 1);
                    int cost = tokens.takeNumber(1, GREATEST_COST);
                    boolean poisoned = tokens.is("poisoned");
                    if (poisoned) {
                        tokens.advance();
                    }
                    tokens.take(";");
                    draft.addRequest(tenant, cost, poisoned);
                }
            }
        }
    }

    /** Reads the test of a query; each part becomes a mask in which bit r stands for request r. */
    private static final class QueryText {
        private static final int PLACE = 8;

        /**
         * Open counts the 'not' and '(' round a part, which bounds how deep the parts go. Conjunctions have no
         * method of their own, so that calls go no deeper than they may.
         */
        private static long test(Tokens tokens, Fleet fleet, int open) {
            long before = 0L;
            long conjunction = factor(tokens, fleet, open);
            boolean isOr = tokens.is("or");
            for (int i = 0; i < LONGEST_QUERY && (isOr || tokens.is("and")); i++) {
                tokens.advance();
                long next = factor(tokens, fleet, open);
                before = isOr ? before | conjunction : before;
                conjunction = isOr ? next : conjunction & next;
                isOr = tokens.is("or");
            }
            return before | conjunction;
        }

        private static long factor(Tokens tokens, Fleet fleet, int open) {
            boolean negated = tokens.is("not");
            if (!negated && !tokens.is("(")) {
                return comparison(tokens, fleet);
            }
            if (open >= MOST_OPEN) {
                tokens.fail(TOO_MANY);
                return 0L;
            }
            tokens.advance();
            if (negated) {
                return allRequests(fleet) & ~factor(tokens, fleet, open + 1);
            }
            long held = test(tokens, fleet, open + 1);
            tokens.take(")");
            return held;
        }

        private static long allRequests(Fleet fleet) {
            return (1L << fleet.requests) - 1L;
        }

        private static long comparison(Tokens tokens, Fleet fleet) {
            int left = takeValue(tokens);
            boolean less = tokens.is("<");
            boolean greater = tokens.is(">");
            if (less || greater) {
                tokens.advance();
            } else {
                tokens.take("=");
            }
            int right = takeValue(tokens);
            long held = 0L;
            for (int request = 0; request < fleet.requests && tokens.isGood(); request++) {
                int a = valueFor(left, fleet, request);
                int b = valueFor(right, fleet, request);
                if (less ? a < b : greater ? a > b : a == b) {
                    held |= 1L << request;
                }
            }
            return held;
        }

        /** Takes a value: a number stands for itself, a property for -1 minus its number. */
        private static int takeValue(Tokens tokens) {
            int property = propertyNamed(tokens);
            if (property == NONE) {
                return tokens.takeNumber(0, GREATEST_VALUE);
            }
            tokens.advance();
            return -1 - property;
        }

        /** Numbers the properties from 0 as the columns of the table of requests stand behind the first. */
        private static int propertyNamed(Tokens tokens) {
            if (tokens.is("request")) {
                return 0;
            }
            if (tokens.is("tenant")) {
                return 1 + TENANT;
            }
            if (tokens.is("cost")) {
                return 1 + COST;
            }
            if (tokens.is("rest")) {
                return 1 + REST;
            }
            if (tokens.is("poisoned")) {
                return 1 + POISONED;
            }
            if (tokens.is("state")) {
                return 1 + STATE;
            }
            if (tokens.is("attempts")) {
                return 1 + ATTEMPTS;
            }
            if (tokens.is("worker")) {
                return 1 + WORKER;
            }
            return tokens.is("place") ? PLACE : NONE;
        }

        private static int valueFor(int value, Fleet fleet, int request) {
            if (value >= 0) {
                return value;
            }
            int property = -1 - value;
            if (property == 0) {
                return request;
            }
            if (property == PLACE) {
                return fleet.placeOf(request);
            }
            int cell = fleet.requestTable.at(request, property - 1);
            return property == 1 + WORKER ? cell + 1 : cell;
        }
    }

    /** The text of the most recent call of format. */
    private static final class WorkerText {
        int length = 0;
        /** A request takes at most seven bytes, the rest of the text at most eight. */
        final Row bytes = new Row(8 + 7 * MOST_REQUESTS);

        void write(Fleet fleet, int worker) {
            length = 0;
            append("w");
            appendNumber(worker);
            append(fleet.isUp(worker) ? " up" : " down");
            int queue = fleet.queueLength(worker);
            for (int place = 0; place < queue; place++) {
                int request = fleet.waitingAt(worker, place);
                append(" ");
                appendNumber(request);
                if (fleet.requestTable.at(request, POISONED) == 1) {
                    append("!");
                }
                append(":");
                appendNumber(fleet.requestTable.at(request, REST));
            }
        }

        private void append(String text) {
            for (int i = 0; i < text.length(); i++) {
                bytes.put(length, text.charAt(i));
                length++;
            }
        }

        /** No number in this text has more than two digits. */
        private void appendNumber(int number) {
            if (number >= 10) {
                bytes.put(length, '0' + number / 10);
                length++;
            }
            bytes.put(length, '0' + number % 10);
            length++;
        }
    }
}
