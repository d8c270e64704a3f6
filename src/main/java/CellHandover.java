import java.util.Arrays;
import java.util.NoSuchElementException;

/**
 * A simulator of handovers in a cellular network. Every state that a call may need (the present one, the one that is
 * tried out, the snapshot and the undo history) is made in the constructor and used again, so that calls make no
 * objects.
 */
public final class CellHandover {
    public static final int NONE = -1;
    public static final int HIDDEN = -1000000000;

    private static final int MAX_CELLS = 8;
    private static final int MAX_RELATIONS = 24;
    private static final int MAX_MOBILES = 12;
    private static final int MAX_WINDOW = 8;
    private static final int MAX_COORDINATE = 999;
    private static final int MAX_SPEED = 99;
    private static final int MAX_HYSTERESIS = 30;
    private static final int MAX_DURATION = 500;
    private static final int MAX_TICKS = 60;
    private static final int MAX_TRIAL_TICKS = 30;
    private static final int MAX_CLOCK = 100000;
    private static final int MAX_BYTES = 700;
    private static final int MAX_QUERY = 200;
    private static final int MAX_OPEN = 6;
    private static final int MAX_UNDO = 12;
    private static final int FED_BYTES = 20;

    private static final int GRID_STEP = 37;
    private static final int ENOUGH_POINTS = 3;

    private static final int IDLE = 0;
    private static final int TALKING = 1;
    private static final int WAITING = 2;

    private static final int REFUSED = -2;
    private static final int WAITS = -3;
    private static final int UNCOVERED = -4;
    private static final int BLOCKED = -5;

    private static final int HANDOVERS = 0;
    private static final int PING_PONGS = 1;
    private static final int COMPLETED_CALLS = 2;
    private static final int DROPPED_CALLS = 3;
    private static final int BLOCKED_CALLS = 4;
    private static final int RETRIED_CALLS = 5;
    private static final int SERVED_REQUESTS = 6;
    private static final int EXPIRED_REQUESTS = 7;
    private static final int TOTALS = 8;

    private static final int NOT_ALLOWED = 1;
    private static final int OUT_OF_RANGE = 2;
    private static final int TOO_MANY = 3;
    private static final int TWICE = 4;

    private final Text text = new Text();
    private final Network now = new Network();
    private final Network trial = new Network();
    private final Network snapshot = new Network();
    private final History history = new History();
    private final Simulator simulator = new Simulator();
    private final Survey survey = new Survey();
    private boolean hasSnapshot;

    public CellHandover() {
        hasSnapshot = false;
    }

    public int feed(int a, int b, int c, int d, int e) {
        if (text.fed > MAX_BYTES - FED_BYTES) {
            return NONE;
        }
        text.append(a);
        text.append(b);
        text.append(c);
        text.append(d);
        text.append(e);
        return text.fed;
    }

    public int load(int length) throws IllegalArgumentException {
        requireRange(length, 0, text.fed);
        text.open(length);
        new NetworkReader(text, trial).readNetwork();
        text.close();
        if (text.error != 0) {
            return -10 - text.error;
        }
        now.copyFrom(trial);
        history.forget();
        return now.cellCount;
    }

    public int errorPosition() {
        return text.errorAt;
    }

    public int cellCount() {
        return now.cellCount;
    }

    public int relationCount() {
        return now.relationCount;
    }

    public int mobileCount() {
        return now.mobileCount;
    }

    public int clock() {
        return now.clock;
    }

    public int hysteresis(int from, int to) throws NoSuchElementException {
        requireCell(from);
        requireCell(to);
        Relation relation = now.relationAt(from, to);
        return relation.exists ? relation.hysteresis : NONE;
    }

    public int level(int cell, int x, int y) throws NoSuchElementException, IllegalArgumentException {
        requireCell(cell);
        requireRange(x, 0, MAX_COORDINATE);
        requireRange(y, 0, MAX_COORDINATE);
        return now.cellAt(cell).levelAt(x, y);
    }

    public int strongestCell(int x, int y) throws IllegalArgumentException {
        requireRange(x, 0, MAX_COORDINATE);
        requireRange(y, 0, MAX_COORDINATE);
        return now.coveringCell(x, y);
    }

    public int coverage(int cell) throws NoSuchElementException {
        requireCell(cell);
        return survey.countCovered(now, cell);
    }

    public int missingRelation(int margin) throws IllegalArgumentException {
        requireRange(margin, 0, MAX_HYSTERESIS);
        return survey.findMissing(now, margin);
    }

    public int addMobile(int x, int y, int vx, int vy) throws IllegalArgumentException {
        requireRange(x, 0, MAX_COORDINATE);
        requireRange(y, 0, MAX_COORDINATE);
        requireRange(vx, -MAX_SPEED, MAX_SPEED);
        requireRange(vy, -MAX_SPEED, MAX_SPEED);
        if (now.mobileCount >= MAX_MOBILES) {
            return REFUSED;
        }
        history.record(now);
        int number = now.mobileCount;
        now.mobileCount = number + 1;
        now.mobileAt(number).place(x, y, vx, vy);
        return number;
    }

    public int setVelocity(int mobile, int vx, int vy) throws NoSuchElementException, IllegalArgumentException {
        requireMobile(mobile);
        requireRange(vx, -MAX_SPEED, MAX_SPEED);
        requireRange(vy, -MAX_SPEED, MAX_SPEED);
        history.record(now);
        Mobile changed = now.mobileAt(mobile);
        changed.vx = vx;
        changed.vy = vy;
        return changed.state;
    }

    public int call(int mobile, int duration) throws NoSuchElementException, IllegalArgumentException {
        requireMobile(mobile);
        requireRange(duration, 1, MAX_DURATION);
        Mobile caller = now.mobileAt(mobile);
        if (caller.state != IDLE) {
            return REFUSED;
        }
        int strongest = now.coveringCell(caller.x, caller.y);
        if (strongest == NONE) {
            return UNCOVERED;
        }
        history.record(now);
        return now.setUpCall(caller, duration, strongest);
    }

    public int hangUp(int mobile) throws NoSuchElementException {
        requireMobile(mobile);
        Mobile caller = now.mobileAt(mobile);
        int before = caller.state;
        if (before == IDLE) {
            return REFUSED;
        }
        history.record(now);
        caller.becomeIdle();
        return before;
    }

    public int setHysteresis(int from, int to, int value) throws NoSuchElementException, IllegalArgumentException {
        requireCell(from);
        requireCell(to);
        requireRange(value, 0, MAX_HYSTERESIS);
        Relation relation = now.relationAt(from, to);
        if (!relation.exists) {
            return REFUSED;
        }
        history.record(now);
        int before = relation.hysteresis;
        relation.hysteresis = value;
        return before;
    }

    public int run(int ticks) throws IllegalArgumentException {
        requireTicks(ticks, MAX_TICKS);
        history.record(now);
        int before = now.totalOf(HANDOVERS);
        simulator.advance(now, ticks);
        return now.totalOf(HANDOVERS) - before;
    }

    public int x(int mobile) throws NoSuchElementException {
        requireMobile(mobile);
        return now.mobileAt(mobile).x;
    }

    public int y(int mobile) throws NoSuchElementException {
        requireMobile(mobile);
        return now.mobileAt(mobile).y;
    }

    public int state(int mobile) throws NoSuchElementException {
        requireMobile(mobile);
        return now.mobileAt(mobile).state;
    }

    public int servingCell(int mobile) throws NoSuchElementException {
        requireMobile(mobile);
        return now.mobileAt(mobile).serving;
    }

    public int remaining(int mobile) throws NoSuchElementException {
        requireMobile(mobile);
        return now.mobileAt(mobile).remaining;
    }

    public int requestCell(int mobile) throws NoSuchElementException {
        requireMobile(mobile);
        return now.mobileAt(mobile).requestCell;
    }

    public int average(int mobile, int cell) throws NoSuchElementException {
        requireMobile(mobile);
        requireCell(cell);
        return now.mobileAt(mobile).averageOf(cell);
    }

    public int reportCount(int mobile, int cell) throws NoSuchElementException {
        requireMobile(mobile);
        requireCell(cell);
        return now.mobileAt(mobile).reportsOf(cell);
    }

    public boolean isBarred(int mobile, int cell) throws NoSuchElementException {
        requireMobile(mobile);
        requireCell(cell);
        return now.mobileAt(mobile).isBarredAt(cell, now.clock);
    }

    public int candidate(int mobile, int index) throws NoSuchElementException {
        requireMobile(mobile);
        requireIndex(index);
        return simulator.candidateAt(now, mobile, index);
    }

    public int busyChannels(int cell) throws NoSuchElementException {
        requireCell(cell);
        return now.talkersIn(cell);
    }

    public int queueLength(int cell) throws NoSuchElementException {
        requireCell(cell);
        return now.requestsAt(cell);
    }

    public int queued(int cell, int index) throws NoSuchElementException {
        requireCell(cell);
        requireIndex(index);
        return now.queuedMobile(cell, index);
    }

    public int successes(int from, int to) throws NoSuchElementException {
        requireCell(from);
        requireCell(to);
        return now.relationAt(from, to).successes;
    }

    public int refusals(int from, int to) throws NoSuchElementException {
        requireCell(from);
        requireCell(to);
        return now.relationAt(from, to).refusals;
    }

    public int total(int what) {
        return now.totalOf(what);
    }

    public int congestedTicks(int cell) throws NoSuchElementException {
        requireCell(cell);
        return now.cellAt(cell).congestedTicks;
    }

    public int forecastCell(int mobile, int ticks) throws NoSuchElementException, IllegalArgumentException {
        requireMobile(mobile);
        requireTicks(ticks, MAX_TICKS);
        trial.copyFrom(now);
        simulator.advance(trial, ticks);
        return trial.mobileAt(mobile).serving;
    }

    public int bestHysteresis(int from, int to, int ticks) throws NoSuchElementException, IllegalArgumentException {
        requireCell(from);
        requireCell(to);
        requireTicks(ticks, MAX_TRIAL_TICKS);
        if (!now.relationAt(from, to).exists) {
            return REFUSED;
        }
        int best = 0;
        int fewestDrops = 0;
        int fewestHandovers = 0;
        for (int value = 0; value <= MAX_HYSTERESIS; value++) {
            trial.copyFrom(now);
            trial.relationAt(from, to).hysteresis = value;
            simulator.advance(trial, ticks);
            int drops = trial.totalOf(DROPPED_CALLS);
            int handovers = trial.totalOf(HANDOVERS);
            if (value == 0 || drops < fewestDrops || drops == fewestDrops && handovers < fewestHandovers) {
                best = value;
                fewestDrops = drops;
                fewestHandovers = handovers;
            }
        }
        return best;
    }

    public int undoCount() {
        return history.count;
    }

    public int undo() {
        if (history.count <= 0) {
            return NONE;
        }
        history.takeBack(now);
        return history.count;
    }

    public void saveSnapshot() {
        snapshot.copyFrom(now);
        hasSnapshot = true;
    }

    public boolean restoreSnapshot() {
        if (!hasSnapshot) {
            return false;
        }
        now.copyFrom(snapshot);
        history.forget();
        return true;
    }

    public int query(int length) throws IllegalArgumentException {
        requireRange(length, 0, Math.min(text.fed, MAX_QUERY));
        text.open(length);
        int answer = new QueryReader(text, now).readQuery();
        text.close();
        return text.error != 0 ? HIDDEN - text.error : answer;
    }

    private void requireCell(int cell) {
        if (cell < 0 || cell >= now.cellCount) {
            throw new NoSuchElementException("no such cell");
        }
    }

    private void requireMobile(int mobile) {
        if (mobile < 0 || mobile >= now.mobileCount) {
            throw new NoSuchElementException("no such mobile");
        }
    }

    private void requireTicks(int ticks, int most) {
        requireRange(ticks, 0, most);
        requireRange(now.clock + ticks, 0, MAX_CLOCK);
    }

    private static void requireIndex(int index) {
        if (index < 0) {
            throw new NoSuchElementException("negative index");
        }
    }

    private static void requireRange(int value, int low, int high) {
        if (value < low || value > high) {
            throw new IllegalArgumentException("out of range");
        }
    }

    private static void copyInts(int[] source, int[] target) {
        System.arraycopy(source, 0, target, 0, Math.min(source.length, target.length));
    }

    private static final class Cell {
        int x;
        int y;
        int power;
        int slope;
        int channels;
        int capacity;
        int accessLevel;
        int lowLevel;
        int congestedTicks;

        int levelAt(int px, int py) {
            int distance = Math.abs(px - x) + Math.abs(py - y);
            return Math.max(0, power - slope * distance / 100);
        }

        void copyFrom(Cell other) {
            x = other.x;
            y = other.y;
            power = other.power;
            slope = other.slope;
            channels = other.channels;
            capacity = other.capacity;
            accessLevel = other.accessLevel;
            lowLevel = other.lowLevel;
            congestedTicks = other.congestedTicks;
        }
    }

    private static final class Relation {
        boolean exists;
        int hysteresis;
        int successes;
        int refusals;

        void clear() {
            exists = false;
            hysteresis = 0;
            successes = 0;
            refusals = 0;
        }

        void copyFrom(Relation other) {
            exists = other.exists;
            hysteresis = other.hysteresis;
            successes = other.successes;
            refusals = other.refusals;
        }
    }

    /** A mobile with its request: one of a talking mobile is for a handover, one of a waiting mobile for a set-up. */
    private static final class Mobile {
        int x;
        int y;
        int vx;
        int vy;
        int state;
        int serving;
        int remaining;
        int badTicks;
        int requestCell;
        int requestTick;
        private final int[] levels = new int[MAX_CELLS * MAX_WINDOW];
        private final int[] reportCounts = new int[MAX_CELLS];
        private final int[] barredUntil = new int[MAX_CELLS];

        Mobile() {
            serving = NONE;
            requestCell = NONE;
        }

        void place(int newX, int newY, int newVx, int newVy) {
            x = newX;
            y = newY;
            vx = newVx;
            vy = newVy;
            becomeIdle();
        }

        void becomeIdle() {
            state = IDLE;
            serving = NONE;
            remaining = 0;
            badTicks = 0;
            requestCell = NONE;
            requestTick = 0;
            clearMeasurements();
        }

        void beginToTalk(int cell) {
            state = TALKING;
            serving = cell;
            badTicks = 0;
            requestCell = NONE;
            clearMeasurements();
        }

        void waitForSetUp(int cell, int tick) {
            state = WAITING;
            makeRequest(cell, tick);
        }

        void makeRequest(int cell, int tick) {
            requestCell = cell;
            requestTick = tick;
        }

        void addReport(int cell, int level, int window) {
            int count = reportsOf(cell);
            int first = cell * MAX_WINDOW;
            if (count >= window) {
                dropOldest(first, count);
                count--;
            }
            int at = first + count;
            if (cell < 0 || cell >= reportCounts.length || at < 0 || at >= levels.length) {
                return;
            }
            levels[at] = level;
            reportCounts[cell] = count + 1;
        }

        private void dropOldest(int first, int count) {
            for (int at = first; at < first + count - 1; at++) {
                if (at >= 0 && at < levels.length - 1) {
                    levels[at] = levels[at + 1];
                }
            }
        }

        void clearReports(int cell) {
            if (cell >= 0 && cell < reportCounts.length) {
                reportCounts[cell] = 0;
            }
        }

        int reportsOf(int cell) {
            return cell >= 0 && cell < reportCounts.length ? reportCounts[cell] : 0;
        }

        int averageOf(int cell) {
            int count = cell >= 0 && cell < reportCounts.length ? reportCounts[cell] : 0;
            if (count <= 0) {
                return NONE;
            }
            int first = cell * MAX_WINDOW;
            int sum = 0;
            for (int at = first; at < first + count; at++) {
                if (at >= 0 && at < levels.length) {
                    sum += levels[at];
                }
            }
            return sum / count;
        }

        void bar(int cell, int until) {
            if (cell >= 0 && cell < barredUntil.length) {
                barredUntil[cell] = until;
            }
        }

        boolean isBarredAt(int cell, int tick) {
            return cell >= 0 && cell < barredUntil.length && tick <= barredUntil[cell];
        }

        private void clearMeasurements() {
            Arrays.fill(reportCounts, 0);
            Arrays.fill(barredUntil, NONE);
        }

        void copyFrom(Mobile other) {
            x = other.x;
            y = other.y;
            vx = other.vx;
            vy = other.vy;
            state = other.state;
            serving = other.serving;
            remaining = other.remaining;
            badTicks = other.badTicks;
            requestCell = other.requestCell;
            requestTick = other.requestTick;
            copyInts(other.levels, levels);
            copyInts(other.reportCounts, reportCounts);
            copyInts(other.barredUntil, barredUntil);
        }
    }

    /**
     * A network with its mobiles, clock and counts. The queues are not kept: the requests that the mobiles hold tell
     * each queue and its order.
     */
    private static final class Network {
        int cellCount;
        int relationCount;
        int mobileCount;
        int clock;
        int window;
        int minReports;
        int pingPongTime;
        int queueTime;
        int dropLevel;
        int dropTime;
        private final Cell[] cells = new Cell[MAX_CELLS];
        private final Relation[] relations = new Relation[MAX_CELLS * MAX_CELLS];
        private final Mobile[] mobiles = new Mobile[MAX_MOBILES];
        private final int[] totals = new int[TOTALS];
        // What a number outside the network stands for, so that no look-up can answer null.
        private final Cell noCell = new Cell();
        private final Relation noRelation = new Relation();
        private final Mobile noMobile = new Mobile();

        Network() {
            setDefaults();
            for (int i = 0; i < cells.length; i++) {
                cells[i] = new Cell();
            }
            for (int i = 0; i < relations.length; i++) {
                relations[i] = new Relation();
            }
            for (int i = 0; i < mobiles.length; i++) {
                mobiles[i] = new Mobile();
            }
        }

        private void setDefaults() {
            window = 4;
            minReports = 2;
            pingPongTime = 5;
            queueTime = 4;
            dropLevel = 5;
            dropTime = 3;
        }

        Cell cellAt(int number) {
            Cell found = number >= 0 && number < cells.length ? cells[number] : null;
            return found == null ? noCell : found;
        }

        Mobile mobileAt(int number) {
            Mobile found = number >= 0 && number < mobiles.length ? mobiles[number] : null;
            return found == null ? noMobile : found;
        }

        Relation relationAt(int from, int to) {
            if (from < 0 || from >= MAX_CELLS || to < 0 || to >= MAX_CELLS) {
                return noRelation;
            }
            int at = from * MAX_CELLS + to;
            Relation found = at < relations.length ? relations[at] : null;
            return found == null ? noRelation : found;
        }

        int totalOf(int what) {
            return what >= 0 && what < totals.length ? totals[what] : NONE;
        }

        void count(int what) {
            if (what >= 0 && what < totals.length) {
                totals[what]++;
            }
        }

        void clear() {
            cellCount = 0;
            relationCount = 0;
            mobileCount = 0;
            clock = 0;
            setDefaults();
            for (int from = 0; from < MAX_CELLS; from++) {
                for (int to = 0; to < MAX_CELLS; to++) {
                    relationAt(from, to).clear();
                }
            }
            Arrays.fill(totals, 0);
        }

        void copyFrom(Network other) {
            cellCount = other.cellCount;
            relationCount = other.relationCount;
            mobileCount = other.mobileCount;
            clock = other.clock;
            window = other.window;
            minReports = other.minReports;
            pingPongTime = other.pingPongTime;
            queueTime = other.queueTime;
            dropLevel = other.dropLevel;
            dropTime = other.dropTime;
            for (int from = 0; from < MAX_CELLS; from++) {
                cellAt(from).copyFrom(other.cellAt(from));
                for (int to = 0; to < MAX_CELLS; to++) {
                    relationAt(from, to).copyFrom(other.relationAt(from, to));
                }
            }
            for (int i = 0; i < MAX_MOBILES; i++) {
                mobileAt(i).copyFrom(other.mobileAt(i));
            }
            copyInts(other.totals, totals);
        }

        /** The cell with the greatest level, whatever its access level; NONE without cells. */
        int loudestCell(int x, int y) {
            int best = NONE;
            int bestLevel = NONE;
            for (int cell = 0; cell < cellCount; cell++) {
                int found = cellAt(cell).levelAt(x, y);
                if (found > bestLevel) {
                    best = cell;
                    bestLevel = found;
                }
            }
            return best;
        }

        int coveringCell(int x, int y) {
            int best = loudestCell(x, y);
            return best != NONE && canBeUsed(best, x, y) ? best : NONE;
        }

        private boolean canBeUsed(int cell, int x, int y) {
            Cell used = cellAt(cell);
            return used.levelAt(x, y) >= used.accessLevel;
        }

        int talkersIn(int cell) {
            int talkers = 0;
            for (int i = 0; i < mobileCount; i++) {
                Mobile mobile = mobileAt(i);
                if (mobile.state == TALKING && mobile.serving == cell) {
                    talkers++;
                }
            }
            return talkers;
        }

        boolean hasFreeChannel(int cell) {
            return talkersIn(cell) < cellAt(cell).channels;
        }

        int requestsAt(int cell) {
            int requests = 0;
            for (int i = 0; i < mobileCount; i++) {
                if (mobileAt(i).requestCell == cell) {
                    requests++;
                }
            }
            return requests;
        }

        boolean hasQueuePlace(int cell) {
            return requestsAt(cell) < cellAt(cell).capacity;
        }

        int queuedMobile(int cell, int index) {
            for (int i = 0; i < mobileCount; i++) {
                if (mobileAt(i).requestCell == cell && requestsBefore(i) == index) {
                    return i;
                }
            }
            return NONE;
        }

        private int requestsBefore(int number) {
            int cell = mobileAt(number).requestCell;
            int before = 0;
            for (int i = 0; i < mobileCount; i++) {
                if (mobileAt(i).requestCell == cell && comesBefore(i, number)) {
                    before++;
                }
            }
            return before;
        }

        private boolean comesBefore(int first, int second) {
            Mobile a = mobileAt(first);
            Mobile b = mobileAt(second);
            if (a.state != b.state) {
                return a.state == TALKING;
            }
            if (a.requestTick != b.requestTick) {
                return a.requestTick < b.requestTick;
            }
            return first < second;
        }

        int setUpCall(Mobile caller, int duration, int strongest) {
            int cell = hasFreeChannel(strongest) ? strongest : retryCell(strongest, caller.x, caller.y);
            if (cell != NONE) {
                if (cell != strongest) {
                    count(RETRIED_CALLS);
                }
                caller.remaining = duration;
                caller.beginToTalk(cell);
                return cell;
            }
            if (hasQueuePlace(strongest)) {
                caller.remaining = duration;
                caller.waitForSetUp(strongest, clock);
                return WAITS;
            }
            count(BLOCKED_CALLS);
            return BLOCKED;
        }

        private int retryCell(int strongest, int x, int y) {
            int best = NONE;
            int bestLevel = NONE;
            for (int cell = 0; cell < cellCount; cell++) {
                int found = cellAt(cell).levelAt(x, y);
                if (relationAt(strongest, cell).exists && found > bestLevel && canBeUsed(cell, x, y)
                        && hasFreeChannel(cell)) {
                    best = cell;
                    bestLevel = found;
                }
            }
            return best;
        }

        void handOver(Mobile mobile, int to) {
            int from = mobile.serving;
            if (mobile.isBarredAt(to, clock)) {
                count(PING_PONGS);
            }
            mobile.bar(from, clock + pingPongTime);
            mobile.serving = to;
            mobile.badTicks = 0;
            mobile.requestCell = NONE;
            relationAt(from, to).successes++;
            count(HANDOVERS);
        }
    }

    /** The candidates of one mobile, the best one first. */
    private static final class Ranking {
        int count;
        boolean emergency;
        private final int[] cells = new int[MAX_CELLS];
        private final int[] margins = new int[MAX_CELLS];

        void rank(Network network, Mobile mobile) {
            count = 0;
            emergency = false;
            int served = mobile.averageOf(mobile.serving);
            if (served == NONE) {
                return;
            }
            emergency = served < network.cellAt(mobile.serving).lowLevel;
            for (int cell = 0; cell < network.cellCount; cell++) {
                int margin = marginOf(network, mobile, cell);
                if (margin > 0) {
                    insert(cell, margin);
                }
            }
        }

        /** The margin of a candidate; 0 for a cell that is none. */
        private int marginOf(Network network, Mobile mobile, int cell) {
            Relation relation = network.relationAt(mobile.serving, cell);
            if (!relation.exists || mobile.reportsOf(cell) < network.minReports) {
                return 0;
            }
            if (!emergency && mobile.isBarredAt(cell, network.clock)) {
                return 0;
            }
            int average = mobile.averageOf(cell);
            if (average < network.cellAt(cell).accessLevel) {
                return 0;
            }
            int margin = average - mobile.averageOf(mobile.serving);
            return emergency ? margin : margin - relation.hysteresis;
        }

        /** Cells come in ascending order, so one of an equal margin stays behind those that are there. */
        private void insert(int cell, int margin) {
            if (count >= cells.length || count >= margins.length) {
                return;
            }
            int at = count;
            for (; at > 0 && margins[at - 1] < margin; at--) {
                cells[at] = cells[at - 1];
                margins[at] = margins[at - 1];
            }
            cells[at] = cell;
            margins[at] = margin;
            count++;
        }

        int cellAtRank(int index) {
            return index >= 0 && index < count && index < cells.length ? cells[index] : NONE;
        }
    }

    /** The steps of a tick. */
    private static final class Simulator {
        private final Ranking ranking = new Ranking();

        void advance(Network network, int ticks) {
            for (int i = 0; i < ticks; i++) {
                moveMobiles(network);
                measureLevels(network);
                completeCalls(network);
                dropCalls(network);
                serveQueues(network);
                decideHandovers(network);
                countCongestion(network);
                expireRequests(network);
                network.clock++;
            }
        }

        int candidateAt(Network network, int mobile, int index) {
            ranking.rank(network, network.mobileAt(mobile));
            return ranking.cellAtRank(index);
        }

        private void moveMobiles(Network network) {
            for (int i = 0; i < network.mobileCount; i++) {
                Mobile mobile = network.mobileAt(i);
                mobile.x = Math.max(0, Math.min(MAX_COORDINATE, mobile.x + mobile.vx));
                mobile.y = Math.max(0, Math.min(MAX_COORDINATE, mobile.y + mobile.vy));
            }
        }

        private void measureLevels(Network network) {
            for (int i = 0; i < network.mobileCount; i++) {
                Mobile mobile = network.mobileAt(i);
                if (mobile.state == TALKING) {
                    measure(network, mobile);
                }
            }
        }

        private void measure(Network network, Mobile mobile) {
            for (int cell = 0; cell < network.cellCount; cell++) {
                if (cell == mobile.serving || network.relationAt(mobile.serving, cell).exists) {
                    int level = network.cellAt(cell).levelAt(mobile.x, mobile.y);
                    mobile.addReport(cell, level, network.window);
                } else {
                    mobile.clearReports(cell);
                }
            }
        }

        private void completeCalls(Network network) {
            for (int i = 0; i < network.mobileCount; i++) {
                Mobile mobile = network.mobileAt(i);
                if (mobile.state == TALKING) {
                    mobile.remaining--;
                    if (mobile.remaining <= 0) {
                        mobile.becomeIdle();
                        network.count(COMPLETED_CALLS);
                    }
                }
            }
        }

        private void dropCalls(Network network) {
            for (int i = 0; i < network.mobileCount; i++) {
                Mobile mobile = network.mobileAt(i);
                if (mobile.state == TALKING) {
                    boolean bad = mobile.averageOf(mobile.serving) < network.dropLevel;
                    mobile.badTicks = bad ? mobile.badTicks + 1 : 0;
                    if (mobile.badTicks >= network.dropTime) {
                        mobile.becomeIdle();
                        network.count(DROPPED_CALLS);
                    }
                }
            }
        }

        private void serveQueues(Network network) {
            for (int cell = 0; cell < network.cellCount; cell++) {
                for (int served = 0; served < MAX_MOBILES && network.hasFreeChannel(cell); served++) {
                    int first = network.queuedMobile(cell, 0);
                    if (first == NONE) {
                        break;
                    }
                    serve(network, network.mobileAt(first), cell);
                }
            }
        }

        private void serve(Network network, Mobile mobile, int cell) {
            if (mobile.state == TALKING) {
                network.handOver(mobile, cell);
            } else {
                mobile.beginToTalk(cell);
            }
            network.count(SERVED_REQUESTS);
        }

        private void decideHandovers(Network network) {
            for (int i = 0; i < network.mobileCount; i++) {
                Mobile mobile = network.mobileAt(i);
                if (mobile.state == TALKING && mobile.requestCell == NONE) {
                    considerHandover(network, mobile);
                }
            }
        }

        private void considerHandover(Network network, Mobile mobile) {
            ranking.rank(network, mobile);
            for (int i = 0; i < ranking.count; i++) {
                int cell = ranking.cellAtRank(i);
                if (network.hasFreeChannel(cell)) {
                    network.handOver(mobile, cell);
                    return;
                }
                network.relationAt(mobile.serving, cell).refusals++;
            }
            if (!ranking.emergency) {
                return;
            }
            for (int i = 0; i < ranking.count; i++) {
                int cell = ranking.cellAtRank(i);
                if (network.hasQueuePlace(cell)) {
                    mobile.makeRequest(cell, network.clock);
                    return;
                }
            }
        }

        private void countCongestion(Network network) {
            for (int cell = 0; cell < network.cellCount; cell++) {
                if (!network.hasFreeChannel(cell)) {
                    network.cellAt(cell).congestedTicks++;
                }
            }
        }

        private void expireRequests(Network network) {
            for (int i = 0; i < network.mobileCount; i++) {
                Mobile mobile = network.mobileAt(i);
                if (mobile.requestCell != NONE
                        && mobile.requestTick + network.queueTime <= network.clock) {
                    expire(network, mobile);
                }
            }
        }

        private void expire(Network network, Mobile mobile) {
            network.count(EXPIRED_REQUESTS);
            mobile.requestCell = NONE;
            if (mobile.state == WAITING) {
                mobile.becomeIdle();
                network.count(BLOCKED_CALLS);
            }
        }
    }

    /** What the grid points tell of the cells. */
    private static final class Survey {
        private final int[] nearPoints = new int[MAX_CELLS * MAX_CELLS];

        int countCovered(Network network, int cell) {
            int points = 0;
            for (int x = 0; x <= MAX_COORDINATE; x += GRID_STEP) {
                for (int y = 0; y <= MAX_COORDINATE; y += GRID_STEP) {
                    if (network.coveringCell(x, y) == cell) {
                        points++;
                    }
                }
            }
            return points;
        }

        int findMissing(Network network, int margin) {
            Arrays.fill(nearPoints, 0);
            for (int x = 0; x <= MAX_COORDINATE; x += GRID_STEP) {
                for (int y = 0; y <= MAX_COORDINATE; y += GRID_STEP) {
                    countNear(network, x, y, margin);
                }
            }
            for (int from = 0; from < network.cellCount; from++) {
                for (int to = 0; to < network.cellCount; to++) {
                    int pair = from * MAX_CELLS + to;
                    if (pair < nearPoints.length && nearPoints[pair] >= ENOUGH_POINTS
                            && !network.relationAt(from, to).exists) {
                        return pair;
                    }
                }
            }
            return NONE;
        }

        private void countNear(Network network, int x, int y, int margin) {
            int strongest = network.loudestCell(x, y);
            int top = network.cellAt(strongest).levelAt(x, y);
            for (int cell = 0; cell < network.cellCount; cell++) {
                int level = network.cellAt(cell).levelAt(x, y);
                int pair = strongest * MAX_CELLS + cell;
                if (cell != strongest && level > 0 && top - level <= margin && pair >= 0 && pair < nearPoints.length) {
                    nearPoints[pair]++;
                }
            }
        }
    }

    /** The states before the most recent operations, in a ring. */
    private static final class History {
        int count;
        private int next;
        private final Network[] states = new Network[MAX_UNDO];

        History() {
            for (int i = 0; i < states.length; i++) {
                states[i] = new Network();
            }
        }

        void forget() {
            count = 0;
        }

        void record(Network state) {
            Network slot = next >= 0 && next < states.length ? states[next] : null;
            if (slot == null) {
                return;
            }
            slot.copyFrom(state);
            next = next + 1 < MAX_UNDO ? next + 1 : 0;
            count = Math.min(count + 1, MAX_UNDO);
        }

        void takeBack(Network target) {
            int last = next > 0 ? next - 1 : MAX_UNDO - 1;
            Network slot = last < states.length ? states[last] : null;
            if (slot == null) {
                return;
            }
            target.copyFrom(slot);
            next = last;
            count--;
        }
    }

    /** The fed bytes and, while a text is read from them, the present token. Behind an error the reading stands still. */
    private static final class Text {
        private static final int END = 0;
        private static final int LETTER = 1;
        private static final int DIGIT = 2;
        private static final int BLANK = 3;
        private static final int SIGN = 4;

        int fed;
        int error;
        int errorAt = NONE;
        private final int[] bytes = new int[MAX_BYTES];
        private int end;
        private int start;
        private int next;
        private int kind;

        void append(int word) {
            for (int shift = 24; shift >= 0; shift -= 8) {
                if (fed >= 0 && fed < bytes.length) {
                    bytes[fed] = (word >>> shift) & 255;
                    fed++;
                }
            }
        }

        void open(int length) {
            end = length;
            next = 0;
            error = 0;
            advance();
        }

        void close() {
            errorAt = error != 0 ? start : NONE;
            fed = 0;
        }

        void advance() {
            if (error != 0) {
                return;
            }
            start = next;
            while (start < end && kindOf(byteAt(start)) == BLANK) {
                start++;
            }
            next = Math.min(start + 1, end);
            kind = kindOf(byteAt(start));
            if (kind == LETTER || kind == DIGIT) {
                while (next < end && kindOf(byteAt(next)) == kind) {
                    next++;
                }
            }
        }

        private int byteAt(int at) {
            return at >= 0 && at < end && at < bytes.length ? bytes[at] : NONE;
        }

        private static int kindOf(int found) {
            if (found == NONE) {
                return END;
            }
            if (found >= 'a' && found <= 'z') {
                return LETTER;
            }
            if (found >= '0' && found <= '9') {
                return DIGIT;
            }
            return found == ' ' || found == '\n' ? BLANK : SIGN;
        }

        boolean goesOn() {
            return error == 0 && start < end;
        }

        boolean is(String token) {
            if (error != 0 || next - start != token.length()) {
                return false;
            }
            for (int i = 0; i < token.length(); i++) {
                if (byteAt(start + i) != token.charAt(i)) {
                    return false;
                }
            }
            return true;
        }

        void fail(int code) {
            if (error == 0) {
                error = code;
            }
        }

        void expect(String token) {
            if (is(token)) {
                advance();
            } else {
                fail(NOT_ALLOWED);
            }
        }

        int takeNumber(int low, int high) {
            int number = seeNumber(low, high);
            advance();
            return number;
        }

        /** The number of the present token, which stays the present one; low behind an error. */
        int seeNumber(int low, int high) {
            if (kind != DIGIT) {
                fail(NOT_ALLOWED);
            }
            if (error != 0) {
                return low;
            }
            int number = 0;
            for (int at = start; at < next; at++) {
                // Digits behind this bound only make a number greater that is too great for every range.
                if (number < MAX_CLOCK) {
                    number = number * 10 + (byteAt(at) - '0');
                }
            }
            if (number < low || number > high) {
                fail(OUT_OF_RANGE);
                return low;
            }
            return number;
        }
    }

    private static final class NetworkReader {
        private final Text text;
        private final Network network;

        NetworkReader(Text text, Network network) {
            this.text = text;
            this.network = network;
        }

        void readNetwork() {
            network.clear();
            for (int clauses = 0; clauses < MAX_BYTES && text.goesOn(); clauses++) {
                readClause();
                text.expect(";");
            }
        }

        private void readClause() {
            if (text.is("cell")) {
                readCell();
            } else if (text.is("relation")) {
                readRelation();
            } else if (text.is("settings")) {
                readSettings();
            } else {
                text.fail(NOT_ALLOWED);
            }
        }

        private void readCell() {
            if (network.cellCount >= MAX_CELLS) {
                text.fail(TOO_MANY);
                return;
            }
            text.advance();
            Cell cell = network.cellAt(network.cellCount);
            cell.x = text.takeNumber(0, MAX_COORDINATE);
            cell.y = text.takeNumber(0, MAX_COORDINATE);
            cell.power = text.takeNumber(1, 99);
            cell.slope = text.takeNumber(1, 50);
            cell.channels = text.takeNumber(1, 8);
            cell.capacity = text.takeNumber(0, 6);
            cell.accessLevel = text.takeNumber(0, 99);
            cell.lowLevel = text.takeNumber(0, 99);
            cell.congestedTicks = 0;
            network.cellCount++;
        }

        private void readRelation() {
            if (network.relationCount >= MAX_RELATIONS) {
                text.fail(TOO_MANY);
                return;
            }
            text.advance();
            int from = text.takeNumber(0, network.cellCount - 1);
            int to = text.seeNumber(0, network.cellCount - 1);
            if (to == from) {
                text.fail(OUT_OF_RANGE);
            }
            Relation relation = network.relationAt(from, to);
            if (relation.exists) {
                text.fail(TWICE);
            }
            text.advance();
            relation.hysteresis = text.takeNumber(0, MAX_HYSTERESIS);
            relation.exists = true;
            network.relationCount++;
        }

        private void readSettings() {
            text.advance();
            network.window = text.takeNumber(1, MAX_WINDOW);
            network.minReports = text.takeNumber(1, network.window);
            network.pingPongTime = text.takeNumber(0, 50);
            network.queueTime = text.takeNumber(1, 30);
            network.dropLevel = text.takeNumber(0, 99);
            network.dropTime = text.takeNumber(1, 20);
        }
    }

    /** Reads a query and evaluates each part of it for all mobiles at once: bit i stands for mobile i. */
    private static final class QueryReader {
        private static final int MAX_NUMBER = 9999;
        private static final int NO_CELL = 9;
        private static final int PROPERTIES = 8;

        private final Text text;
        private final Network network;

        QueryReader(Text text, Network network) {
            this.text = text;
            this.network = network;
        }

        int readQuery() {
            boolean many = text.is("many");
            if (!many && !text.is("first")) {
                text.fail(NOT_ALLOWED);
            }
            text.advance();
            int holds = test(0);
            if (text.goesOn()) {
                text.fail(NOT_ALLOWED);
            }
            return many ? Integer.bitCount(holds) : firstOf(holds);
        }

        private int test(int open) {
            int anyHolds = 0;
            int allHold = factor(open);
            for (int i = 0; i < MAX_QUERY; i++) {
                boolean ends = text.is("or");
                if (!ends && !text.is("and")) {
                    break;
                }
                text.advance();
                int holds = factor(open);
                // An 'or' ends a conjunction, an 'and' goes on with it.
                anyHolds = ends ? anyHolds | allHold : anyHolds;
                allHold = ends ? holds : allHold & holds;
            }
            return anyHolds | allHold;
        }

        private int factor(int open) {
            boolean negated = text.is("not");
            if (!negated && !text.is("(")) {
                return comparison();
            }
            if (open >= MAX_OPEN) {
                text.fail(TOO_MANY);
                return 0;
            }
            text.advance();
            if (negated) {
                return everyMobile() & ~factor(open + 1);
            }
            int holds = test(open + 1);
            text.expect(")");
            return holds;
        }

        private int comparison() {
            int left = seeValue();
            text.advance();
            boolean less = text.is("<");
            boolean equal = text.is("=");
            if (!less && !equal && !text.is(">")) {
                text.fail(NOT_ALLOWED);
            }
            text.advance();
            int right = seeValue();
            text.advance();
            int holds = 0;
            for (int i = 0; i < network.mobileCount; i++) {
                int a = valueFor(left, i);
                int b = valueFor(right, i);
                if (less ? a < b : equal ? a == b : a > b) {
                    holds |= 1 << i;
                }
            }
            return holds;
        }

        /** The value that the present token stands for: a number as it is, property p as -1 - p. */
        private int seeValue() {
            for (int property = 0; property < PROPERTIES; property++) {
                if (text.is(nameOf(property))) {
                    return -1 - property;
                }
            }
            return text.seeNumber(0, MAX_NUMBER);
        }

        private int firstOf(int holds) {
            for (int i = 0; i < network.mobileCount; i++) {
                if ((holds & (1 << i)) != 0) {
                    return i;
                }
            }
            return NONE;
        }

        private int everyMobile() {
            return (1 << network.mobileCount) - 1;
        }

        private static String nameOf(int property) {
            switch (property) {
                case 0: return "mobile";
                case 1: return "x";
                case 2: return "y";
                case 3: return "state";
                case 4: return "cell";
                case 5: return "left";
                case 6: return "reports";
                default: return "waits";
            }
        }

        private int valueFor(int value, int number) {
            if (value >= 0) {
                return value;
            }
            Mobile mobile = network.mobileAt(number);
            switch (-1 - value) {
                case 0: return number;
                case 1: return mobile.x;
                case 2: return mobile.y;
                case 3: return mobile.state;
                case 4: return mobile.serving == NONE ? NO_CELL : mobile.serving;
                case 5: return mobile.state == TALKING ? mobile.remaining : 0;
                case 6: return mobile.reportsOf(mobile.serving);
                default: return mobile.requestCell == NONE ? 0 : 1;
            }
        }
    }
}
