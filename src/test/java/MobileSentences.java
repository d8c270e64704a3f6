/** The sentences of promises 20 to 36. */
final class MobileSentences {
    private static final int[] NONE_OF_TWO = {-1, 2, 7, 8, 11, 12, Integer.MIN_VALUE, Integer.MAX_VALUE};
    private static final String NO_MOBILE = "Throws `NoSuchElementException` if there is no such mobile";
    private static final String NO_CELL = "Throws `NoSuchElementException` if there is no such cell";
    private static final String NO_MOBILE_OR_CELL = "Throws `NoSuchElementException` if there is no such mobile or cell";

    private MobileSentences() {
    }

    /** Mobile 0 talks in cell 1, 1 in cell 0 (an emergency, once there are two reports), 2 waits at 1, and 3 is idle. */
    private static CellHandover four() {
        CellHandover h = Nets.with(Nets.cell(40, 1, 1, 0, 99), Nets.cell(50, 1, 6, 0, 0), "relation 1 0 0;relation 0 1 0;",
                Nets.settings(4, 2, 5, 30, 0, 3));
        Nets.callers(h, 3);
        h.addMobile(999, 0, 0, 0);
        return h;
    }

    /** Two cells and two mobiles. */
    private static CellHandover two() {
        CellHandover h = Nets.with(Nets.cell(40, 1, 1, 0, 99), Nets.cell(50, 1, 6, 0, 0), "relation 1 0 0;relation 0 1 0;");
        Nets.callers(h, 2);
        return h;
    }

    @Says(at = "Promise 20", value = "Returns the x coordinate of a mobile.")
    @Break({"public int x(", "mobileAt(mobile).x", "mobileAt(mobile).y"})
    @Break({"void place(", "x = newX;", "x = newX > 0 ? newX : 1;"})
    static void xs(Check c) {
        int[] places = {0, 1, 998, 999};
        for (int x : places) {
            CellHandover h = new CellHandover();
            h.addMobile(x, 500, 0, 0);
            c.is("x", h.x(0), x);
            h.run(1);
            c.is("x", h.x(0), x);
        }
    }

    @Says(at = "Promise 20", value = NO_MOBILE)
    @Break({"public int x(", "requireMobile(mobile);", ""})
    static void noMobileX(Check c) {
        CellHandover h = two();
        for (int mobile : NONE_OF_TWO) {
            c.noSuch("mobile " + mobile, () -> h.x(mobile));
        }
        c.is("the last one", h.x(1), 0);
    }

    @Says(at = "Promise 21", value = "Returns the y coordinate of a mobile.")
    @Break({"public int y(", "mobileAt(mobile).y", "mobileAt(mobile).x"})
    @Break({"void place(", "y = newY;", "y = newY < 999 ? newY : 998;"})
    static void ys(Check c) {
        int[] places = {0, 1, 998, 999};
        for (int y : places) {
            CellHandover h = new CellHandover();
            h.addMobile(500, y, 0, 0);
            c.is("y", h.y(0), y);
            h.run(1);
            c.is("y", h.y(0), y);
        }
    }

    @Says(at = "Promise 21", value = NO_MOBILE)
    @Break({"public int y(", "requireMobile(mobile);", ""})
    static void noMobileY(Check c) {
        CellHandover h = two();
        for (int mobile : NONE_OF_TWO) {
            c.noSuch("mobile " + mobile, () -> h.y(mobile));
        }
        c.is("the last one", h.y(1), 0);
    }

    @Says(at = "Promise 22", value = {"Returns the state of a mobile.", NO_MOBILE})
    @Break({"public int state(", "requireMobile(mobile);", ""})
    @Break({"public int state(", "mobileAt(mobile).state", "mobileAt(mobile).state == WAITING ? 0 : now.mobileAt(mobile).state"})
    static void states(Check c) {
        CellHandover h = four();
        int[] due = {1, 1, 2, 0};
        for (int mobile = 0; mobile < due.length; mobile++) {
            c.is("state", h.state(mobile), due[mobile]);
        }
        h.run(2);
        c.is("waits for a handover", h.requestCell(1), 1);
        c.is("and talks", h.state(1), 1);
        CellHandover g = two();
        for (int mobile : NONE_OF_TWO) {
            c.noSuch("mobile " + mobile, () -> g.state(mobile));
        }
    }

    @Says(at = "Promise 23", value = {"Returns the serving cell of a mobile;", "NONE if it does not talk.", NO_MOBILE})
    @Break({"public int servingCell", "requireMobile(mobile);", ""})
    @Break({"void becomeIdle", "serving = NONE;", ""})
    @Break({"void becomeIdle", "serving = NONE;", "serving = 0;"})
    static void servingCells(Check c) {
        CellHandover h = four();
        int[] due = {1, 0, -1, -1};
        for (int mobile = 0; mobile < due.length; mobile++) {
            c.is("servingCell", h.servingCell(mobile), due[mobile]);
        }
        h.hangUp(0);
        c.is("it does not talk any more", h.servingCell(0), -1);
        CellHandover g = two();
        for (int mobile : NONE_OF_TWO) {
            c.noSuch("mobile " + mobile, () -> g.servingCell(mobile));
        }
    }

    @Says(at = "Promise 24", value = {"Returns the remaining duration of the call of a mobile (also while it waits for "
        + "set-up);", "0 if it is idle.", NO_MOBILE})
    @Break({"public int remaining", "requireMobile(mobile);", ""})
    @Break({"public int remaining", "return now.mobileAt(mobile).remaining",
            "return now.mobileAt(mobile).state == WAITING ? 0 : now.mobileAt(mobile).remaining"})
    @Break({"void becomeIdle", "remaining = 0;", ""})
    static void remaining(Check c) {
        CellHandover h = four();
        int[] due = {500, 500, 500, 0};
        for (int mobile = 0; mobile < due.length; mobile++) {
            c.is("remaining", h.remaining(mobile), due[mobile]);
        }
        h.run(7);
        int[] later = {493, 493, 500, 0};
        for (int mobile = 0; mobile < later.length; mobile++) {
            c.is("remaining", h.remaining(mobile), later[mobile]);
        }
        h.hangUp(0);
        h.hangUp(2);
        c.is("idle", h.remaining(0), 0);
        c.is("idle", h.remaining(2), 0);
        h.call(3, 1);
        c.is("the least", h.remaining(3), 1);
        CellHandover g = two();
        for (int mobile : NONE_OF_TWO) {
            c.noSuch("mobile " + mobile, () -> g.remaining(mobile));
        }
    }

    @Says(at = "Promise 25", value = {"Returns the cell at which a mobile has a request;", "NONE if it has none.", NO_MOBILE})
    @Break({"public int requestCell", "requireMobile(mobile);", ""})
    @Break({"void handOver", "mobile.requestCell = NONE;", ""})
    static void requestCells(Check c) {
        CellHandover h = four();
        int[] due = {-1, -1, 1, -1};
        for (int mobile = 0; mobile < due.length; mobile++) {
            c.is("requestCell", h.requestCell(mobile), due[mobile]);
        }
        h.run(2);
        c.is("for a handover", h.requestCell(1), 1);
        h.hangUp(0);
        h.run(1);
        c.is("served", h.requestCell(1), -1);
        c.is("the other one waits", h.requestCell(2), 1);
        CellHandover g = two();
        for (int mobile : NONE_OF_TWO) {
            c.noSuch("mobile " + mobile, () -> g.requestCell(mobile));
        }
    }

    @Says(at = "Promise 26", value = "Returns the average of a cell for a mobile;")
    @Break({"public int average", "averageOf(cell)", "averageOf(now.mobileAt(mobile).serving)"})
    @Break({"int averageOf", "sum / count", "sum / count + (sum % count > 0 ? 1 : 0)"})
    static void averages(Check c) {
        CellHandover h = Nets.with("cell 0 0 60 10 1 0 0 0;cell 999 0 60 5 1 0 0 0;relation 0 1 30;");
        h.addMobile(0, 0, 11, 0);
        h.call(0, 500);
        // Levels of cell 0: 59, 58, 57, 56, 55; of cell 1: 11, 12, 12, 13, 13.
        int[] serving = {59, 58, 58, 57, 56};
        int[] other = {11, 11, 11, 12, 12};
        for (int tick = 0; tick < 5; tick++) {
            h.run(1);
            c.is("the serving cell", h.average(0, 0), serving[tick]);
            c.is("the neighbour", h.average(0, 1), other[tick]);
        }
    }

    @Says(at = "Promise 26", value = "NONE if there are no reports, or the mobile does not talk.")
    @Break({"int averageOf", "return NONE", "return 0"})
    @Break({"void becomeIdle", "clearMeasurements();", ""})
    static void noAverage(Check c) {
        CellHandover h = four();
        for (int mobile = 0; mobile < 4; mobile++) {
            c.is("no reports yet", h.average(mobile, 0), -1);
            c.is("no reports yet", h.average(mobile, 1), -1);
        }
        h.run(1);
        c.is("a report", h.average(0, 1), 50);
        c.is("waiting", h.average(2, 1), -1);
        c.is("idle", h.average(3, 1), -1);
        h.hangUp(0);
        c.is("it does not talk any more", h.average(0, 1), -1);
        CellHandover g = Nets.with("cell 0 0 9 50 1 0 0 0;cell 0 0 8 50 1 0 0 0;settings 4 2 5 4 0 3;");
        Nets.caller(g, 999, 0);
        g.run(1);
        c.is("level 0 is a report", g.average(0, 0), 0);
        c.is("not a neighbour", g.average(0, 1), -1);
    }

    @Says(at = "Promise 26", value = NO_MOBILE_OR_CELL)
    @Break({"public int average", "requireMobile(mobile);", ""})
    @Break({"public int average", "requireCell(cell);", ""})
    static void noneForAverage(Check c) {
        CellHandover h = two();
        for (int none : NONE_OF_TWO) {
            c.noSuch("mobile " + none, () -> h.average(none, 0));
            c.noSuch("cell " + none, () -> h.average(0, none));
            c.noSuch("both", () -> h.average(none, none));
        }
    }

    @Says(at = "Promise 27", value = {"Returns the number of reports of a cell for a mobile (0 if the mobile does not talk).",
        NO_MOBILE_OR_CELL})
    @Break({"public int reportCount", "requireMobile(mobile);", ""})
    @Break({"public int reportCount", "requireCell(cell);", ""})
    @Break({"void becomeIdle", "clearMeasurements();", ""})
    @Break({"void addReport", "count >= window", "count > window"})
    static void reportCounts(Check c) {
        CellHandover h = four();
        for (int tick = 0; tick < 7; tick++) {
            for (int mobile = 0; mobile < 4; mobile++) {
                int due = mobile < 2 ? Math.min(tick, 4) : 0;
                c.is("reports", h.reportCount(mobile, 0), due);
                c.is("reports", h.reportCount(mobile, 1), due);
            }
            h.run(1);
        }
        h.hangUp(0);
        c.is("it does not talk any more", h.reportCount(0, 0), 0);
        CellHandover g = two();
        for (int none : NONE_OF_TWO) {
            c.noSuch("mobile " + none, () -> g.reportCount(none, 0));
            c.noSuch("cell " + none, () -> g.reportCount(0, none));
            c.noSuch("both", () -> g.reportCount(none, none));
        }
    }

    @Says(at = "Promise 28", value = "Returns whether a cell is barred for a talking mobile at the present clock;")
    @Break({"public boolean isBarred", "isBarredAt(cell, now.clock)", "isBarredAt(cell, now.clock - 1)"})
    @Break({"public boolean isBarred", "isBarredAt(cell, now.clock)", "isBarredAt(cell, now.clock + 1)"})
    @Break({"public boolean isBarred", "isBarredAt(cell, now.clock)", "isBarredAt(0, now.clock)"})
    static void barredCells(Check c) {
        CellHandover h = Nets.with("cell 0 0 60 10 1 0 0 0;cell 100 0 60 10 1 0 0 0;relation 0 1 0;",
                Nets.settings(1, 1, 3, 30, 0, 3));
        h.addMobile(40, 0, 20, 0);
        h.call(0, 500);
        c.fails("at the beginning", h.isBarred(0, 0));
        c.is("handover at the clock 0", h.run(1), 1);
        boolean[] due = {true, true, true, false, false};
        for (int i = 0; i < due.length; i++) {
            c.is("barred at " + h.clock(), h.isBarred(0, 0) ? 1 : 0, due[i] ? 1 : 0);
            c.fails("the serving cell", h.isBarred(0, 1));
            h.run(1);
        }
    }

    @Says(at = "Promise 28", value = {"false for other mobiles.", NO_MOBILE_OR_CELL})
    @Break({"public boolean isBarred", "requireMobile(mobile);", ""})
    @Break({"public boolean isBarred", "requireCell(cell);", ""})
    @Break({"void becomeIdle", "clearMeasurements();", ""})
    static void neverBarred(Check c) {
        CellHandover h = four();
        h.hangUp(0);
        h.hangUp(2);
        c.is("handover", h.run(2), 1);
        c.holds("barred", h.isBarred(1, 0));
        h.hangUp(1);
        h.call(0, 9);
        Nets.caller(h, 0, 0);
        c.is("waits", h.call(2, 9), -3);
        for (int mobile = 1; mobile < 4; mobile++) {
            c.fails("idle or waiting", h.isBarred(mobile, 0));
            c.fails("idle or waiting", h.isBarred(mobile, 1));
        }
        CellHandover g = two();
        for (int none : NONE_OF_TWO) {
            c.noSuch("mobile " + none, () -> g.isBarred(none, 0));
            c.noSuch("cell " + none, () -> g.isBarred(0, none));
            c.noSuch("both", () -> g.isBarred(none, none));
        }
    }

    /** Mobile 1 talks in cell 0 with the margins 10 of cell 1, which is full, 9 of 3 and 8 of 2. */
    private static CellHandover ranked() {
        CellHandover h = Nets.with(Nets.cell(40, 1, 0, 0, 0), Nets.cell(50, 1, 0, 0, 0), Nets.cell(48, 1, 0, 0, 0),
                Nets.cell(49, 1, 0, 0, 0), "relation 1 0 0;relation 0 1 30;relation 0 2 30;relation 0 3 30;",
                Nets.settings(4, 2, 5, 30, 0, 3));
        Nets.callers(h, 2);
        h.run(1);
        for (int cell = 1; cell <= 3; cell++) {
            h.setHysteresis(0, cell, 0);
        }
        return h;
    }

    @Says(at = "Promise 29", value = {"Lists the candidates that a mobile would have if a handover were considered now, with "
        + "the present reports and the present clock.", "- `index`: from 0", "Returns the candidate at this index of the "
        + "ranking;"})
    @Break({"int candidateAt", "ranking.cellAtRank(index)", "ranking.cellAtRank(index + 1)"})
    @Break({"private int marginOf", "isBarredAt(cell, network.clock)", "isBarredAt(cell, network.clock - 1)"})
    static void candidates(Check c) {
        CellHandover h = ranked();
        c.is("one report is too few", h.candidate(1, 0), -1);
        for (int cell = 1; cell <= 3; cell++) {
            h.setHysteresis(0, cell, 30);
        }
        h.run(1);
        c.is("the hysteresis is too great", h.candidate(1, 0), -1);
        for (int cell = 1; cell <= 3; cell++) {
            h.setHysteresis(0, cell, 0);
        }
        String before = Check.picture(h);
        int[] due = {1, 3, 2};
        for (int i = 0; i < due.length; i++) {
            c.is("candidate " + i, h.candidate(1, i), due[i]);
        }
        c.is("without a free channel too", h.busyChannels(1), 1);
        c.holds("nothing changes", before.equals(Check.picture(h)));
        // The present clock: barred up to 2, so that the cell is a candidate from 3 on.
        CellHandover g = Nets.with("cell 0 0 60 10 1 0 0 0;cell 100 0 60 10 1 0 0 0;relation 0 1 0;relation 1 0 0;",
                Nets.settings(1, 1, 2, 30, 0, 3));
        g.addMobile(40, 0, 20, 0);
        g.call(0, 500);
        g.run(1);
        g.setVelocity(0, -20, 0);
        g.run(1);
        c.is("barred at 2", g.candidate(0, 0), -1);
        g.run(1);
        c.is("not barred at 3", g.candidate(0, 0), 0);
    }

    @Says(at = "Promise 29", value = "NONE if there are not so many, the mobile does not talk, or the serving cell has no "
            + "reports.")
    @Break({"int cellAtRank", "index < count && ", ""})
    @Break({"void rank(", "count = 0;", ""})
    @Break({"int cellAtRank", ": NONE", ": 0"})
    static void noCandidates(Check c) {
        CellHandover h = ranked();
        c.is("none", h.candidate(0, 0), -1);
        for (int cell = 1; cell <= 3; cell++) {
            h.setHysteresis(0, cell, 30);
        }
        h.run(1);
        for (int cell = 1; cell <= 3; cell++) {
            h.setHysteresis(0, cell, 0);
        }
        c.is("the last one", h.candidate(1, 2), 2);
        c.is("not so many", h.candidate(1, 3), -1);
        c.is("not so many", h.candidate(1, 7), -1);
        c.is("not so many", h.candidate(1, 8), -1);
        c.is("not so many", h.candidate(1, Integer.MAX_VALUE), -1);
        c.is("none", h.candidate(0, 0), -1);
        h.hangUp(1);
        for (int i = 0; i < 3; i++) {
            c.is("it does not talk", h.candidate(1, i), -1);
        }
        CellHandover g = Nets.with(Nets.cell(60, 1, 1, 0, 0), Nets.settings(1, 1, 5, 30, 0, 3));
        Nets.callers(g, 2);
        c.is("no reports", g.candidate(0, 0), -1);
        c.is("it waits", g.candidate(1, 0), -1);
        g.hangUp(0);
        g.run(1);
        c.is("no reports", g.candidate(1, 0), -1);
    }

    @Says(at = "Promise 29", value = "Throws `NoSuchElementException` if there is no such mobile or index is negative")
    @Break({"public int candidate", "requireMobile(mobile);", ""})
    @Break({"public int candidate", "requireIndex(index);", ""})
    @Break({"private static void requireIndex", "index < 0", "index < -1"})
    @Break({"private static void requireIndex", "index < 0", "index <= 0"})
    static void noneForCandidate(Check c) {
        CellHandover h = two();
        for (int none : NONE_OF_TWO) {
            c.noSuch("mobile " + none, () -> h.candidate(none, 0));
            c.noSuch("both", () -> h.candidate(none, -1));
        }
        c.noSuch("index -1", () -> h.candidate(0, -1));
        c.noSuch("the least index", () -> h.candidate(0, Integer.MIN_VALUE));
        c.is("index 0", h.candidate(0, 0), -1);
    }

    @Says(at = "Promise 30", value = {"Returns the number of mobiles that talk in a cell.", NO_CELL})
    @Break({"public int busyChannels", "requireCell(cell);", ""})
    @Break({"int talkersIn", "mobile.state == TALKING && mobile.serving == cell", "mobile.serving == cell "
            + "|| mobile.requestCell == cell"})
    static void busyChannels(Check c) {
        CellHandover h = Nets.with(Nets.cell(60, 8, 6, 0, 0), Nets.cell(50, 1, 0, 0, 0));
        for (int i = 0; i < 12; i++) {
            c.is("busy", h.busyChannels(0), Math.min(i, 8));
            c.is("busy", h.busyChannels(1), 0);
            Nets.caller(h, 0, 0);
        }
        c.is("the others wait", h.queueLength(0), 4);
        h.hangUp(0);
        c.is("busy", h.busyChannels(0), 7);
        CellHandover g = two();
        for (int cell : NONE_OF_TWO) {
            c.noSuch("cell " + cell, () -> g.busyChannels(cell));
        }
    }

    @Says(at = "Promise 31", value = {"Returns the number of requests in the queue of a cell.", NO_CELL})
    @Break({"public int queueLength", "requireCell(cell);", ""})
    @Break({"int requestsAt", "mobileAt(i).requestCell == cell", "mobileAt(i).requestCell == cell && mobileAt(i).state == WAITING"})
    @Break({"int requestsAt", "i < mobileCount", "i < mobileCount - 1"})
    static void queueLengths(Check c) {
        CellHandover h = Nets.with(Nets.cell(60, 1, 6, 0, 0), Nets.cell(50, 1, 6, 0, 0), Nets.settings(4, 2, 5, 2, 5, 3));
        c.is("empty", h.queueLength(0), 0);
        Nets.caller(h, 0, 0);
        for (int i = 0; i <= 6; i++) {
            c.is("queue", h.queueLength(0), i);
            c.is("the other queue", h.queueLength(1), 0);
            c.is("a place or none", Nets.caller(h, 0, 0), i < 6 ? -3 : -5);
        }
        c.is("full", h.queueLength(0), 6);
        h.hangUp(3);
        c.is("one less", h.queueLength(0), 5);
        h.hangUp(0);
        h.run(1);
        c.is("one is served", h.queueLength(0), 4);
        h.run(2);
        c.is("the others are removed", h.queueLength(0), 0);
        CellHandover f = four();
        f.run(2);
        c.is("a set-up and a handover", f.queueLength(1), 2);
        CellHandover g = two();
        for (int cell : NONE_OF_TWO) {
            c.noSuch("cell " + cell, () -> g.queueLength(cell));
        }
    }

    @Says(at = "Promise 32", value = {"- `index`: from 0", "Returns the mobile of the request at this index of the queue of a "
        + "cell;", "NONE if there are not so many."})
    @Break({"int queuedMobile", "requestsBefore(i) == index", "requestsBefore(i) == index - 1"})
    @Break({"int queuedMobile", "requestsBefore(i) == index", "requestsBefore(i) >= index"})
    @Break({"int queuedMobile", "return NONE", "return 0"})
    static void queued(Check c) {
        CellHandover h = Nets.with(Nets.cell(60, 1, 6, 0, 0), Nets.cell(50, 1, 6, 0, 0));
        c.is("an empty queue", h.queued(0, 0), -1);
        Nets.caller(h, 0, 0);
        for (int length = 0; length <= 6; length++) {
            for (int i = 0; i < length; i++) {
                c.is("place " + i, h.queued(0, i), i + 1);
            }
            c.is("not so many", h.queued(0, length), -1);
            c.is("not so many", h.queued(0, 6), -1);
            c.is("not so many", h.queued(0, Integer.MAX_VALUE), -1);
            c.is("the other queue", h.queued(1, 0), -1);
            Nets.caller(h, 0, 0);
        }
        CellHandover g = Nets.with(Nets.cell(60, 1, 6, 0, 0), Nets.settings(4, 2, 5, 30, 5, 3));
        Nets.caller(g, 0, 0);
        for (int mobile = 1; mobile <= 4; mobile++) {
            g.addMobile(0, 0, 0, 0);
        }
        for (int mobile = 4; mobile >= 1; mobile--) {
            g.call(mobile, 9);
            g.run(1);
        }
        for (int i = 0; i < 4; i++) {
            c.is("by ticks", g.queued(0, i), 4 - i);
        }
    }

    @Says(at = "Promise 32", value = "Throws `NoSuchElementException` if there is no such cell or index is negative")
    @Break({"public int queued", "requireCell(cell);", ""})
    @Break({"public int queued", "requireIndex(index);", ""})
    @Break({"private static void requireIndex", "index < 0", "index < -1"})
    @Break({"private static void requireIndex", "index < 0", "index <= 0"})
    static void noneForQueued(Check c) {
        CellHandover h = two();
        for (int none : NONE_OF_TWO) {
            c.noSuch("cell " + none, () -> h.queued(none, 0));
            c.noSuch("both", () -> h.queued(none, -1));
        }
        c.noSuch("index -1", () -> h.queued(0, -1));
        c.noSuch("the least index", () -> h.queued(0, Integer.MIN_VALUE));
        c.is("index 0", h.queued(0, 0), -1);
    }

    @Says(at = "Promise 33", value = {"Returns the number of successes of a relation;", "0 if there is no such relation.",
        NO_CELL})
    @Break({"public int successes", "requireCell(from);", ""})
    @Break({"public int successes", "requireCell(to);", ""})
    @Break({"public int successes", "relationAt(from, to).successes", "relationAt(to, from).successes"})
    @Break({"public int successes", "relationAt(from, to).successes", "relationAt(from, to).refusals"})
    @Break({"public int successes", "return now.relationAt(from, to).successes",
            "return now.relationAt(from, to).exists ? now.relationAt(from, to).successes : NONE"})
    static void successes(Check c) {
        CellHandover h = Nets.with("cell 0 0 60 10 1 0 0 0;cell 100 0 60 10 1 0 0 0;cell 999 0 9 50 1 0 0 0;relation 0 1 0;",
                "relation 1 0 0;", Nets.settings(1, 1, 0, 30, 0, 3));
        h.addMobile(40, 0, 20, 0);
        h.call(0, 500);
        for (int i = 0; i < 6; i++) {
            c.is("there", h.successes(0, 1), (i + 1) / 2);
            c.is("back", h.successes(1, 0), i / 2);
            c.is("no relation", h.successes(0, 2), 0);
            c.is("no relation", h.successes(2, 1), 0);
            c.is("no relation", h.successes(1, 1), 0);
            c.is("handover", h.run(1), 1);
            h.setVelocity(0, i % 2 == 0 ? -20 : 20, 0);
        }
        CellHandover g = two();
        for (int cell : NONE_OF_TWO) {
            c.noSuch("from " + cell, () -> g.successes(cell, 1));
            c.noSuch("to " + cell, () -> g.successes(0, cell));
        }
    }

    @Says(at = "Promise 34", value = {"Returns the number of refusals of a relation;", "0 if there is no such relation.",
        NO_CELL})
    @Break({"public int refusals", "requireCell(from);", ""})
    @Break({"public int refusals", "requireCell(to);", ""})
    @Break({"public int refusals", "relationAt(from, to).refusals", "relationAt(to, from).refusals"})
    @Break({"public int refusals", "return now.relationAt(from, to).refusals",
            "return now.relationAt(from, to).exists ? now.relationAt(from, to).refusals : NONE"})
    static void refusals(Check c) {
        CellHandover h = Nets.with(Nets.cell(40, 1, 0, 0, 0), Nets.cell(50, 1, 0, 0, 0), Nets.cell(9, 1, 0, 0, 0),
                "relation 1 0 0;relation 0 1 0;", Nets.settings(1, 1, 0, 30, 0, 3));
        Nets.callers(h, 2);
        for (int i = 0; i < 6; i++) {
            c.is("refusals", h.refusals(0, 1), i);
            c.is("back", h.refusals(1, 0), 0);
            c.is("no relation", h.refusals(0, 2), 0);
            c.is("no relation", h.refusals(2, 1), 0);
            c.is("no relation", h.refusals(1, 1), 0);
            h.run(1);
        }
        CellHandover g = two();
        for (int cell : NONE_OF_TWO) {
            c.noSuch("from " + cell, () -> g.refusals(cell, 1));
            c.noSuch("to " + cell, () -> g.refusals(0, cell));
        }
    }

    @Says(at = "Promise 35", value = {"Returns a count of events since the network was loaded.", "- `what`: 0 handovers, 1 "
        + "ping-pongs, 2 completed calls, 3 dropped calls, 4 blocked calls, 5 calls set up by directed retry, 6 requests that "
        + "were served, 7 requests that were removed by timeouts", "Returns the count;"})
    @Break({"void handOver", "count(PING_PONGS);", ""})
    @Break({"void handOver", "count(HANDOVERS);", ""})
    @Break({"private void completeCalls", "network.count(COMPLETED_CALLS);", ""})
    @Break({"private void dropCalls", "network.count(DROPPED_CALLS);", ""})
    @Break({"int setUpCall", "count(BLOCKED_CALLS);", ""})
    @Break({"private void expire(", "network.count(BLOCKED_CALLS);", ""})
    @Break({"int setUpCall", "count(RETRIED_CALLS);", ""})
    @Break({"int setUpCall", "if (cell != strongest) {", "if (true) {"})
    @Break({"private void serve(", "network.count(SERVED_REQUESTS);", ""})
    @Break({"private void expire(", "network.count(EXPIRED_REQUESTS);", ""})
    @Break({"void clear() {\n            cellCount", "Arrays.fill(totals, 0);", ""})
    static void totals(Check c) {
        String network = "cell 0 0 60 10 1 1 0 0;cell 100 0 60 10 1 2 0 99;relation 0 1 0;relation 1 0 0;"
                + "settings 1 1 5 2 40 2;";
        CellHandover h = Nets.with(network);
        for (int round = 0; round < 2; round++) {
            totals(c, h, 0, 0, 0, 0, 0, 0, 0, 0);
            h.addMobile(40, 0, 20, 0);
            h.call(0, 500);
            h.run(1);
            totals(c, h, 1, 0, 0, 0, 0, 0, 0, 0);
            h.setVelocity(0, -20, 0);
            h.run(1);
            totals(c, h, 2, 1, 0, 0, 0, 0, 0, 0);
            h.setVelocity(0, 0, 0);
            h.addMobile(0, 0, 0, 0);
            h.call(1, 3);
            totals(c, h, 2, 1, 0, 0, 0, 1, 0, 0);
            h.addMobile(0, 0, 0, 0);
            h.call(2, 500);
            h.addMobile(0, 0, 0, 0);
            h.call(3, 500);
            totals(c, h, 2, 1, 0, 0, 1, 1, 0, 0);
            // The queue of cell 0 is full; mobile 1 has no request therefore, and ends in the third tick.
            h.run(2);
            totals(c, h, 2, 1, 0, 0, 1, 1, 0, 0);
            h.run(1);
            totals(c, h, 2, 1, 1, 0, 2, 1, 0, 1);
            h.call(2, 500);
            h.call(3, 500);
            totals(c, h, 2, 1, 1, 0, 2, 2, 0, 1);
            h.hangUp(0);
            h.run(1);
            totals(c, h, 2, 1, 1, 0, 2, 2, 1, 1);
            h.setVelocity(3, 0, 99);
            h.run(4);
            // Mobile 3 is dropped at the clock 9. Mobile 2 waits for its channel from 5 to 7, and from 8 on.
            totals(c, h, 3, 1, 1, 1, 2, 2, 2, 2);
            h.forecastCell(0, 5);
            Check.load(h, network);
        }
        totals(c, new CellHandover(), 0, 0, 0, 0, 0, 0, 0, 0);
    }

    private static void totals(Check c, CellHandover h, int... due) {
        for (int what = 0; what < due.length; what++) {
            c.is("total " + what + " at " + h.clock(), h.total(what), due[what]);
        }
    }

    @Says(at = "Promise 35", value = "NONE if what is out of range.")
    @Break({"int totalOf", "what >= 0 && ", "what > 0 && "})
    @Break({"int totalOf", "what < totals.length", "what < totals.length - 1"})
    @Break({"int totalOf", "what < totals.length ? totals[what] : NONE", "what < 12 ? what < 8 ? totals[what] : 0 : NONE"})
    @Break({"int totalOf", ": NONE", ": 0"})
    static void noTotal(Check c) {
        CellHandover h = two();
        int[] outside = {-1, 8, 9, 10, Integer.MIN_VALUE, Integer.MAX_VALUE};
        for (int what : outside) {
            c.is("total " + what, h.total(what), -1);
        }
        c.is("the first one", h.total(0), 0);
        c.is("the last one", h.total(7), 0);
    }

    @Says(at = "Promise 36", value = {"Returns the number of ticks in which a cell had no free channel at the end of step 6.",
        NO_CELL})
    @Break({"public int congestedTicks", "requireCell(cell);", ""})
    @Break({"private void countCongestion", "!network.hasFreeChannel(cell)", "network.talkersIn(cell) > 0"})
    @Break({"void advance(Network network, int ticks)", "decideHandovers(network);\n                countCongestion(network);",
            "countCongestion(network);\n                decideHandovers(network);"})
    @Break({"void advance(Network network, int ticks)", "moveMobiles(network);",
            "countCongestion(network); moveMobiles(network);"})
    static void congestedTicks(Check c) {
        CellHandover h = Nets.with(Nets.cell(60, 2, 0, 0, 0), Nets.cell(50, 1, 0, 0, 0));
        h.addMobile(0, 0, 0, 0);
        h.call(0, 500);
        h.run(3);
        c.is("one of two channels", h.congestedTicks(0), 0);
        h.addMobile(0, 0, 0, 0);
        h.call(1, 3);
        c.is("no tick yet", h.congestedTicks(0), 0);
        int[] due = {1, 2, 2, 2};
        for (int i = 0; i < due.length; i++) {
            h.run(1);
            c.is("a call of 3 ticks", h.congestedTicks(0), due[i]);
        }
        c.is("the other cell", h.congestedTicks(1), 0);
        // A handover of step 6 fills one cell and frees the other.
        CellHandover f = Nets.with("cell 0 0 60 10 1 0 0 0;cell 100 0 60 10 1 0 0 0;relation 0 1 0;",
                Nets.settings(1, 1, 5, 30, 0, 3));
        f.addMobile(40, 0, 20, 0);
        f.call(0, 500);
        c.is("handover", f.run(1), 1);
        c.is("the cell before", f.congestedTicks(0), 0);
        c.is("the cell behind", f.congestedTicks(1), 1);
        CellHandover g = two();
        for (int cell : NONE_OF_TWO) {
            c.noSuch("cell " + cell, () -> g.congestedTicks(cell));
        }
    }
}
