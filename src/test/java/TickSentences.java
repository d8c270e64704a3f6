/** The sentences of "One tick". */
final class TickSentences {
    private static final String AT = "One tick";
    /** Mobile 0 talks in cell 1, and mobile 1 in cell 0, from where it would be handed over to cell 1 in an emergency. */
    private static final String PAIR = "cell 0 0 40 10 1 6 0 99;cell 0 0 50 10 1 6 0 0;relation 1 0 0;relation 0 1 0;";

    private TickSentences() {
    }

    private static CellHandover pair(String settings) {
        CellHandover h = Nets.with(PAIR, settings);
        Nets.callers(h, 2);
        return h;
    }

    @Says(at = AT, value = "The clock starts at tick 0.")
    @Break({"private static final class Network", "int clock;", "int clock = 1;"})
    @Break({"void clear() {\n            cellCount", "clock = 0;", "clock = 1;"})
    static void startOfTheClock(Check c) {
        CellHandover h = new CellHandover();
        c.is("a new object", h.clock(), 0);
        h.run(3);
        Check.load(h, Nets.cell(60, 1, 1, 0, 0) + Nets.settings(4, 2, 5, 1, 5, 3));
        c.is("a loaded network", h.clock(), 0);
        Nets.callers(h, 2);
        h.run(1);
        c.is("the first tick has the clock 0", h.state(1), 2);
        h.run(1);
        c.is("the second one has the clock 1", h.state(1), 0);
    }

    @Says(at = AT, value = "One tick consists of these steps. In each step mobiles and cells are taken in ascending order.")
    @Break({"private void decideHandovers", "network.mobileAt(i)", "network.mobileAt(network.mobileCount - 1 - i)"})
    @Break({"private void serveQueues", "int cell = 0; cell < network.cellCount; cell++",
            "int cell = network.cellCount - 1; cell >= 0; cell--"})
    static void ascendingOrder(Check c) {
        CellHandover h = Nets.with(Nets.cell(40, 2, 0, 0, 0), Nets.cell(50, 1, 0, 0, 0), "relation 1 0 0;relation 0 1 0;",
                Nets.settings(1, 1, 5, 4, 5, 3));
        Nets.callers(h, 3);
        h.hangUp(0);
        c.is("one channel for two mobiles", h.run(1), 1);
        c.is("the smaller one", h.servingCell(1), 1);
        c.is("the greater one", h.servingCell(2), 0);
        // The handover to cell 1 frees the channel of cell 0 behind the step of cell 0.
        CellHandover up = pair(Nets.settings(1, 1, 5, 30, 5, 3));
        up.addMobile(999, 999, 0, 0);
        c.is("waits at 0", up.call(2, 9), -3);
        up.run(1);
        up.hangUp(0);
        c.is("handover", up.run(1), 1);
        c.is("cell 0 came first", up.state(2), 2);
        up.run(1);
        c.is("the next tick", up.servingCell(2), 0);
        // The other way round, it is free in time.
        CellHandover down = Nets.with("cell 0 0 50 10 1 6 0 0;cell 0 0 40 5 1 6 0 99;relation 0 1 0;relation 1 0 0;",
                Nets.settings(1, 1, 5, 30, 5, 3));
        Nets.callers(down, 2);
        down.addMobile(400, 0, 0, 0);
        c.is("waits", down.call(2, 9), -3);
        c.is("waits at 1", down.requestCell(2), 1);
        down.run(1);
        down.hangUp(0);
        c.is("handover", down.run(1), 1);
        c.is("cell 0 came first", down.servingCell(2), 1);
    }

    @Says(at = AT, value = "Movement: each coordinate of each mobile changes by the velocity;")
    @Break({"private void moveMobiles", "mobile.x + mobile.vx", "mobile.x + mobile.vy"})
    @Break({"private void moveMobiles", "mobile.y + mobile.vy", "mobile.y + mobile.vx"})
    @Break({"private void moveMobiles", "i < network.mobileCount", "i < network.mobileCount && network.mobileAt(i).state > 0"})
    @Break({"private void moveMobiles", "i < network.mobileCount", "i < network.mobileCount && network.mobileAt(i).state < 2"})
    static void movement(Check c) {
        CellHandover h = Nets.with("cell 500 500 60 1 1 6 0 0;");
        for (int i = 0; i < 3; i++) {
            h.addMobile(500, 400, 3, -5);
        }
        h.call(1, 9);
        h.call(2, 9);
        h.run(2);
        for (int i = 0; i < 3; i++) {
            c.is("x of mobile " + i, h.x(i), 506);
            c.is("y of mobile " + i, h.y(i), 390);
        }
        c.is("idle, talking, waiting", 100 * h.state(0) + 10 * h.state(1) + h.state(2), 12);
    }

    @Says(at = AT, value = "a result below 0 becomes 0, and a result above 999 becomes 999.")
    @Break({"private void moveMobiles", "Math.max(0, Math.min(MAX_COORDINATE, mobile.x + mobile.vx))",
            "Math.min(MAX_COORDINATE, mobile.x + mobile.vx)"})
    @Break({"private void moveMobiles", "Math.max(0, Math.min(MAX_COORDINATE, mobile.x + mobile.vx))",
            "Math.max(0, mobile.x + mobile.vx)"})
    @Break({"private void moveMobiles", "Math.max(0, Math.min(MAX_COORDINATE, mobile.y + mobile.vy))",
            "Math.min(MAX_COORDINATE, mobile.y + mobile.vy)"})
    @Break({"private void moveMobiles", "Math.max(0, Math.min(MAX_COORDINATE, mobile.y + mobile.vy))",
            "Math.max(0, mobile.y + mobile.vy)"})
    @Break({"private void moveMobiles", "Math.max(0, Math.min(MAX_COORDINATE, mobile.x + mobile.vx))",
            "Math.floorMod(mobile.x + mobile.vx, 1000)"})
    @Break({"private void moveMobiles", "Math.max(0, Math.min(MAX_COORDINATE, mobile.x", "Math.max(1, Math.min(998, mobile.x"})
    static void borders(Check c) {
        c.is("just 0", moved(99, -99), 0);
        c.is("below 0", moved(98, -99), 0);
        c.is("just 1", moved(99, -98), 1);
        c.is("from 0", moved(0, -1), 0);
        c.is("just 999", moved(900, 99), 999);
        c.is("above 999", moved(901, 99), 999);
        c.is("just 998", moved(900, 98), 998);
        c.is("from 999", moved(999, 1), 999);
        CellHandover h = new CellHandover();
        h.addMobile(5, 995, -4, 4);
        h.run(9);
        c.is("stays at the border", h.x(0), 0);
        c.is("stays at the border", h.y(0), 999);
        h.setVelocity(0, 4, -4);
        h.run(1);
        c.is("comes back from it", h.x(0), 4);
        c.is("comes back from it", h.y(0), 995);
    }

    /** Where a coordinate is after a tick; both coordinates are tried, and have to agree. */
    private static int moved(int from, int speed) {
        CellHandover h = new CellHandover();
        h.addMobile(from, 500, speed, 0);
        h.addMobile(500, from, 0, speed);
        h.run(1);
        return h.x(0) == h.y(1) && h.y(0) == 500 && h.x(1) == 500 ? h.x(0) : -1000;
    }

    @Says(at = AT, value = "Measurement: for every talking mobile, the levels of its serving cell and of the neighbours of "
            + "this cell are appended to the reports of these cells;")
    @Break({"private void measure(", "cell == mobile.serving || ", ""})
    @Break({"private void measure(", "|| network.relationAt(mobile.serving, cell).exists", ""})
    @Break({"void advance(Network network, int ticks)", "moveMobiles(network);\n                measureLevels(network);",
            "measureLevels(network);\n                moveMobiles(network);"})
    static void measurement(Check c) {
        CellHandover h = Nets.with("cell 0 0 60 10 1 1 0 0;cell 100 0 50 10 1 1 0 0;cell 100 0 50 10 1 1 0 0;",
                "relation 0 1 30;relation 1 2 30;", Nets.settings(4, 1, 5, 4, 5, 3));
        h.addMobile(0, 0, 50, 0);
        h.call(0, 500);
        Nets.caller(h, 0, 0);
        c.is("by retry", h.servingCell(1), 1);
        Nets.caller(h, 0, 0);
        c.is("waits", h.state(2), 2);
        h.addMobile(0, 0, 0, 0);
        h.run(1);
        c.is("the serving cell, from the new place", h.average(0, 0), 55);
        c.is("its neighbour, from the new place", h.average(0, 1), 45);
        c.is("the neighbour's neighbour", h.reportCount(0, 2), 0);
        c.is("the serving cell", h.average(1, 1), 40);
        c.is("its neighbour", h.average(1, 2), 40);
        c.is("not a neighbour", h.reportCount(1, 0), 0);
        for (int cell = 0; cell < 3; cell++) {
            c.is("one that waits", h.reportCount(2, cell), 0);
            c.is("an idle one", h.reportCount(3, cell), 0);
        }
    }

    @Says(at = AT, value = "if a list becomes longer than the window, its oldest report is removed.")
    @Break({"void addReport", "count >= window", "count > window"})
    @Break({"void addReport", "count >= window", "count + 1 >= window"})
    @Break({"private void dropOldest", "levels[at] = levels[at + 1]", "levels[at] = levels[at]"})
    static void oldestReport(Check c) {
        CellHandover h = Nets.with("cell 0 0 60 10 1 1 0 0;cell 999 0 60 5 1 1 0 0;relation 0 1 30;",
                Nets.settings(3, 1, 5, 4, 0, 3));
        h.addMobile(0, 0, 40, 0);
        h.call(0, 500);
        // Levels of cell 0: 56, 52, 48, 44; of cell 1: 13 (959 away), 15, 17, 19.
        int[] serving = {56, 54, 52, 48};
        int[] other = {13, 14, 15, 17};
        for (int i = 0; i < 4; i++) {
            h.run(1);
            c.is("the serving cell", h.average(0, 0), serving[i]);
            c.is("the neighbour", h.average(0, 1), other[i]);
            c.is("reports", h.reportCount(0, 1), Math.min(i + 1, 3));
        }
    }

    @Says(at = AT, value = "The reports of all other cells are cleared.")
    @Break({"private void measure(", "mobile.clearReports(cell)", "mobile.reportsOf(cell)"})
    @Break({"void clearReports", "cell >= 0", "cell > 0"})
    @Break({"void clearReports", "cell < reportCounts.length", "cell < reportCounts.length - 1"})
    static void otherReports(Check c) {
        CellHandover h = Nets.with(Nets.cell(40, 1, 0, 0, 0), Nets.cell(50, 1, 0, 0, 0), Nets.cell(30, 1, 0, 0, 0),
                "relation 1 0 30;relation 0 1 0;relation 0 2 30;", Nets.settings(4, 1, 5, 4, 5, 3));
        Nets.callers(h, 2);
        h.setHysteresis(0, 1, 30);
        h.run(2);
        h.setHysteresis(0, 1, 0);
        h.hangUp(0);
        c.is("handover", h.run(1), 1);
        c.is("kept in this tick", h.reportCount(1, 2), 3);
        h.run(1);
        c.is("the serving cell", h.reportCount(1, 1), 4);
        c.is("its neighbour", h.reportCount(1, 0), 4);
        c.is("another cell", h.reportCount(1, 2), 0);
        // From each of eight cells to the next one, from where no relation leads back.
        for (int from = 0; from < 8; from++) {
            int to = (from + 1) % 8;
            StringBuilder text = new StringBuilder();
            for (int i = 0; i < 8; i++) {
                text.append(Nets.clause("cell", i == from ? 0 : i == to ? 100 : 999, 0, 60, 10, 1, 0, 0, 0));
            }
            CellHandover g = Nets.with(text.toString(), Nets.relation(from, to, 0), Nets.settings(4, 1, 5, 4, 5, 3));
            g.addMobile(40, 0, 20, 0);
            c.is("call", g.call(0, 500), from);
            c.is("handover", g.run(1), 1);
            c.is("kept in this tick", g.reportCount(0, from), 1);
            g.run(1);
            c.is("the cell before", g.reportCount(0, from), 0);
            c.is("the serving cell", g.reportCount(0, to), 2);
        }
    }

    @Says(at = AT, value = {"Ends: for every talking mobile, the remaining duration decreases by 1.",
        "If it becomes 0, the call is completed:"})
    @Break({"private void completeCalls", "mobile.remaining <= 0", "mobile.remaining <= 1"})
    @Break({"private void completeCalls", "mobile.remaining <= 0", "mobile.remaining < 0"})
    @Break({"private void completeCalls", "mobile.state == TALKING", "mobile.state != IDLE"})
    @Break({"private void completeCalls", "network.count(COMPLETED_CALLS)", "network.count(DROPPED_CALLS)"})
    static void ends(Check c) {
        CellHandover h = Nets.with(Nets.cell(60, 4, 1, 0, 0), Nets.settings(4, 2, 5, 30, 5, 3));
        int[] durations = {1, 2, 3, 500, 2};
        for (int i = 0; i < durations.length; i++) {
            h.addMobile(0, 0, 0, 0);
            c.is("the fifth waits", h.call(i, durations[i]), i < 4 ? 0 : -3);
        }
        c.is("remaining", h.remaining(4), 2);
        int[][] due = {{0, 1, 2, 499, 2}, {0, 0, 1, 498, 1}, {0, 0, 0, 497, 0}};
        for (int tick = 0; tick < 3; tick++) {
            h.run(1);
            for (int i = 0; i < durations.length; i++) {
                c.is("remaining of " + i, h.remaining(i), due[tick][i]);
                c.is("talks", h.state(i), due[tick][i] == 0 ? 0 : 1);
            }
        }
        c.is("completed", h.total(2), 4);
        c.is("dropped", h.total(3), 0);
    }

    @Says(at = AT, value = {"the mobile becomes idle, and its request, if any, is removed. 4. Drops"})
    @Break({"void becomeIdle", "requestCell = NONE;", ""})
    @Break({"void becomeIdle", "serving = NONE;", ""})
    static void endOfARequest(Check c) {
        CellHandover h = Nets.with(PAIR, Nets.settings(1, 1, 5, 30, 0, 3));
        Nets.caller(h, 0, 0);
        h.addMobile(0, 0, 0, 0);
        h.call(1, 2);
        h.run(1);
        c.is("a request", h.requestCell(1), 1);
        h.run(1);
        c.is("idle", h.state(1), 0);
        c.is("no cell", h.servingCell(1), -1);
        c.is("no request", h.requestCell(1), -1);
        c.is("no request", h.queueLength(1), 0);
        c.is("not by a timeout", h.total(7), 0);
        h.hangUp(0);
        c.is("and it is not served", h.run(1), 0);
        c.is("and it is not served", h.total(6), 0);
    }

    @Says(at = AT, value = "Drops: for every talking mobile, if the average of its serving cell is less than the drop level, "
            + "its bad ticks increase by 1, otherwise they become 0.")
    @Break({"private void dropCalls", "averageOf(mobile.serving) < network.dropLevel",
            "averageOf(mobile.serving) <= network.dropLevel"})
    @Break({"private void dropCalls", "averageOf(mobile.serving) < network.dropLevel",
            "averageOf(mobile.serving) < network.dropLevel - 1"})
    @Break({"private void dropCalls", "mobile.badTicks + 1 : 0", "mobile.badTicks + 1 : mobile.badTicks"})
    @Break({"private void dropCalls", "mobile.badTicks + 1 : 0", "mobile.badTicks + 1 : 1"})
    @Break({"void advance(Network network, int ticks)", "completeCalls(network);\n                dropCalls(network);",
            "dropCalls(network);\n                completeCalls(network);"})
    static void drops(Check c) {
        CellHandover h = Nets.with(Nets.cell(60, 1, 0, 0, 0), Nets.settings(1, 1, 5, 4, 50, 2));
        h.addMobile(100, 0, 0, 0);
        h.call(0, 500);
        int[] speeds = {0, 0, 10, -10, 10, -10, 10, 0};
        int[] levels = {50, 50, 49, 50, 49, 50, 49, -1};
        for (int i = 0; i < speeds.length; i++) {
            h.setVelocity(0, speeds[i], 0);
            c.is("dropped", h.total(3), 0);
            h.run(1);
            c.is("average", h.average(0, 0), levels[i]);
        }
        c.is("two bad ticks in a row", h.total(3), 1);
        CellHandover g = Nets.with(Nets.cell(40, 1, 0, 0, 0), Nets.settings(1, 1, 5, 4, 50, 1));
        g.addMobile(0, 0, 0, 0);
        g.call(0, 1);
        g.run(1);
        c.is("the end comes first", g.total(2), 1);
        c.is("the end comes first", g.total(3), 0);
    }

    @Says(at = AT, value = {"If they reach the drop time, the call is dropped:"})
    @Break({"private void dropCalls", "badTicks >= network.dropTime", "badTicks > network.dropTime"})
    @Break({"private void dropCalls", "badTicks >= network.dropTime", "badTicks >= network.dropTime - 1"})
    @Break({"private void dropCalls", "network.count(DROPPED_CALLS)", "network.count(COMPLETED_CALLS)"})
    static void dropTimes(Check c) {
        for (int time = 1; time <= 20; time++) {
            CellHandover h = Nets.with(Nets.cell(40, 1, 0, 0, 0), Nets.settings(4, 2, 5, 4, 41, time));
            Nets.caller(h, 0, 0);
            h.run(time - 1);
            c.is("one tick less than " + time, h.state(0), 1);
            c.is("dropped", h.total(3), 0);
            h.run(1);
            c.is(time + " ticks", h.state(0), 0);
            c.is("dropped", h.total(3), 1);
            c.is("completed", h.total(2), 0);
        }
    }

    @Says(at = AT, value = "the mobile becomes idle, and its request, if any, is removed. The bad ticks")
    @Break({"void becomeIdle", "requestCell = NONE;", ""})
    @Break({"void becomeIdle", "remaining = 0;", ""})
    static void dropOfARequest(Check c) {
        CellHandover h = pair(Nets.settings(1, 1, 5, 30, 45, 3));
        h.run(2);
        c.is("a request", h.requestCell(1), 1);
        h.run(1);
        c.is("dropped", h.total(3), 1);
        c.is("idle", h.state(1), 0);
        c.is("idle", h.remaining(1), 0);
        c.is("no request", h.requestCell(1), -1);
        c.is("no request", h.queueLength(1), 0);
        c.is("not by a timeout", h.total(7), 0);
    }

    @Says(at = AT, value = "The bad ticks are 0 when a call begins and after every handover.")
    @Break({"void handOver", "mobile.badTicks = 0;", ""})
    @Break({"private void serve(", "network.handOver(mobile, cell)",
            "int bad = mobile.badTicks; network.handOver(mobile, cell); mobile.badTicks = bad"})
    static void badTicksBegin(Check c) {
        CellHandover h = Nets.with(Nets.cell(40, 1, 0, 0, 0), Nets.settings(1, 1, 5, 4, 50, 3));
        Nets.caller(h, 0, 0);
        h.run(2);
        h.hangUp(0);
        h.call(0, 500);
        h.run(2);
        c.is("two bad ticks of the new call", h.state(0), 1);
        h.run(1);
        c.is("three", h.state(0), 0);
        // By a decision: two bad ticks in cell 0, a handover in the second one, then three in cell 1.
        CellHandover g = Nets.with(Nets.cell(40, 1, 0, 0, 0), Nets.cell(50, 1, 0, 0, 0), "relation 1 0 0;relation 0 1 0;",
                Nets.settings(2, 2, 5, 4, 60, 3));
        Nets.callers(g, 2);
        g.hangUp(0);
        c.is("handover", g.run(2), 1);
        g.run(2);
        c.is("two bad ticks since then", g.state(1), 1);
        g.run(1);
        c.is("three", g.state(1), 0);
        // The same from the queue.
        CellHandover f = pair(Nets.settings(1, 1, 5, 30, 60, 3));
        f.run(1);
        f.hangUp(0);
        c.is("handover", f.run(1), 1);
        c.is("served", f.total(6), 1);
        f.run(2);
        c.is("two bad ticks since then", f.state(1), 1);
        f.run(1);
        c.is("three", f.state(1), 0);
    }

    @Says(at = AT, value = "Queues: for every cell, as long as it has a free channel and its queue is not empty, the first "
            + "request is removed and served:")
    @Break({"private void serveQueues", "served < MAX_MOBILES", "served < 1"})
    @Break({"private void serveQueues", "served < MAX_MOBILES && network.hasFreeChannel(cell)", "served < MAX_MOBILES"})
    @Break({"private void serveQueues", "network.queuedMobile(cell, 0)",
            "network.queuedMobile(cell, network.requestsAt(cell) - 1)"})
    @Break({"private void serve(", "network.count(SERVED_REQUESTS);", ""})
    @Break({"void advance(Network network, int ticks)", "dropCalls(network);\n                serveQueues(network);",
            "serveQueues(network);\n                dropCalls(network);"})
    static void serving(Check c) {
        CellHandover h = Nets.with("cell 0 0 60 10 2 6 0 0;cell 999 0 60 10 1 1 0 0;", Nets.settings(4, 2, 5, 30, 0, 3));
        Nets.callers(h, 7);
        Nets.caller(h, 999, 0);
        Nets.caller(h, 999, 0);
        h.run(1);
        c.is("no free channel", h.total(6), 0);
        h.hangUp(0);
        h.run(1);
        c.is("one free channel", h.total(6), 1);
        c.is("the first request", h.servingCell(2), 0);
        c.is("is removed", h.queued(0, 0), 3);
        h.hangUp(1);
        h.hangUp(2);
        h.hangUp(7);
        h.run(1);
        c.is("every cell", h.total(6), 4);
        c.is("two free channels", h.servingCell(3), 0);
        c.is("two free channels", h.servingCell(4), 0);
        c.is("the others wait", h.queueLength(0), 2);
        c.is("the other cell", h.servingCell(8), 1);
        h.hangUp(3);
        h.hangUp(6);
        h.run(1);
        c.is("a queue with one request", h.servingCell(5), 0);
        h.hangUp(4);
        h.run(1);
        c.is("an empty queue", h.total(6), 5);
        // A channel that the end or the drop of a call frees is taken in the same tick.
        CellHandover g = Nets.with(Nets.cell(40, 1, 6, 0, 0), Nets.settings(1, 1, 5, 30, 50, 1));
        Nets.callers(g, 2);
        g.run(1);
        c.is("dropped", g.total(3), 1);
        c.is("served", g.servingCell(1), 0);
    }

    @Says(at = AT, value = "a handover is performed, or the mobile begins to talk.")
    @Break({"private void serve(", "mobile.state == TALKING", "mobile.state != TALKING"})
    @Break({"void beginToTalk", "requestCell = NONE;", ""})
    @Break({"void handOver", "mobile.requestCell = NONE;", ""})
    static void servedOnes(Check c) {
        CellHandover h = pair(Nets.settings(1, 1, 5, 30, 0, 3));
        h.run(1);
        c.is("waits for set-up", Nets.caller(h, 0, 0), -3);
        h.hangUp(0);
        c.is("a handover", h.run(1), 1);
        c.is("servingCell", h.servingCell(1), 1);
        c.is("no request", h.requestCell(1), -1);
        c.holds("the cell before is barred", h.isBarred(1, 0));
        c.is("success", h.successes(0, 1), 1);
        c.is("remaining", h.remaining(1), 498);
        h.hangUp(1);
        c.is("a beginning is no handover", h.run(1), 0);
        c.is("state", h.state(2), 1);
        c.is("servingCell", h.servingCell(2), 1);
        c.is("no request", h.requestCell(2), -1);
        c.is("remaining", h.remaining(2), 500);
        c.is("no directed retry", h.total(5), 1);
    }

    @Says(at = AT, value = "Decisions: for every talking mobile without a request a handover is considered, as described "
            + "below.")
    @Break({"private void decideHandovers", " && mobile.requestCell == NONE", ""})
    @Break({"void advance(Network network, int ticks)", "serveQueues(network);\n                decideHandovers(network);",
            "decideHandovers(network);\n                serveQueues(network);"})
    static void decisions(Check c) {
        CellHandover h = Nets.with(Nets.cell(40, 1, 6, 0, 99), Nets.cell(50, 1, 6, 0, 0), Nets.cell(48, 1, 0, 0, 0),
                "relation 1 0 0;relation 1 2 0;relation 0 1 0;relation 0 2 0;", Nets.settings(1, 1, 5, 30, 0, 3));
        Nets.callers(h, 3);
        h.run(1);
        c.is("a request at 1", h.requestCell(2), 1);
        c.is("refusal", h.refusals(0, 2), 1);
        h.hangUp(1);
        c.is("cell 2 is free, but there is a request", h.run(1), 0);
        c.is("refusal", h.refusals(0, 2), 1);
        h.hangUp(0);
        c.is("served, not decided", h.run(1), 1);
        c.is("served", h.total(6), 1);
        c.is("refusal", h.refusals(0, 1), 1);
        // A channel goes to the queue first, though mobile 1 could be handed over to it.
        CellHandover g = Nets.with(Nets.cell(40, 1, 6, 0, 0), Nets.cell(50, 1, 6, 0, 0), "relation 1 0 0;relation 0 1 0;",
                Nets.settings(1, 1, 5, 30, 0, 3));
        Nets.callers(g, 3);
        c.is("waits", g.requestCell(2), 1);
        g.hangUp(0);
        c.is("the queue comes first", g.run(1), 0);
        c.is("servingCell", g.servingCell(2), 1);
        c.is("refused", g.refusals(0, 1), 1);
    }

    @Says(at = AT, value = "Timeouts: for every cell, every request whose tick plus the queue time is less than or equal to "
            + "the clock is removed.")
    @Break({"private void expireRequests", "<= network.clock", "< network.clock"})
    @Break({"private void expireRequests", "<= network.clock", "<= network.clock + 1"})
    @Break({"private void expire(", "network.count(EXPIRED_REQUESTS);", ""})
    @Break({"private void expireRequests", "int i = 0", "int i = 1"})
    @Break({"private void expireRequests", "i < network.mobileCount", "i < network.mobileCount - 1"})
    @Break({"void advance(Network network, int ticks)", "expireRequests(network);\n                network.clock++;",
            "network.clock++;\n                expireRequests(network);"})
    @Break({"void advance(Network network, int ticks)", "serveQueues(network);",
            "expireRequests(network);\n                serveQueues(network);"})
    static void timeouts(Check c) {
        for (int time = 1; time <= 30; time++) {
            CellHandover h = Nets.with("cell 0 0 60 10 1 2 0 0;cell 999 0 60 10 1 1 0 0;",
                    Nets.settings(4, 2, 5, time, 0, 3));
            int[] places = {0, 0, 0, 999, 999};
            h.run(7);
            for (int x : places) {
                Nets.caller(h, x, 0);
            }
            h.run(time);
            c.is("queue time " + time, h.queueLength(0), 2);
            c.is("removed", h.total(7), 0);
            h.saveSnapshot();
            h.run(1);
            c.is("every request", h.queueLength(0), 0);
            c.is("every cell", h.queueLength(1), 0);
            c.is("removed", h.total(7), 3);
            h.restoreSnapshot();
            h.hangUp(0);
            h.run(1);
            c.is("served in its last tick", h.servingCell(1), 0);
            c.is("removed", h.total(7), 2);
        }
        CellHandover g = Nets.with("cell 0 0 60 10 1 6 0 0;");
        for (int i = 0; i < 12; i++) {
            g.addMobile(0, 0, 0, 0);
        }
        g.call(5, 500);
        g.call(0, 9);
        g.call(11, 9);
        g.run(5);
        c.is("the first mobile", g.state(0), 0);
        c.is("the last mobile", g.state(11), 0);
    }

    @Says(at = AT, value = "A mobile that waited for set-up becomes idle, and its call is blocked.")
    @Break({"private void expire(", "mobile.state == WAITING", "true"})
    @Break({"private void expire(", "network.count(BLOCKED_CALLS)", "network.count(DROPPED_CALLS)"})
    @Break({"private void expire(", "mobile.becomeIdle()", "mobile.state = IDLE"})
    static void expired(Check c) {
        CellHandover h = pair(Nets.settings(1, 1, 5, 2, 0, 3));
        c.is("waits for set-up", Nets.caller(h, 0, 0), -3);
        h.run(1);
        c.is("waits for a handover", h.requestCell(1), 1);
        h.run(2);
        c.is("both requests are removed", h.total(7), 2);
        c.is("set-up: idle", h.state(2), 0);
        c.is("set-up: idle", h.remaining(2), 0);
        c.is("set-up: no request", h.requestCell(2), -1);
        c.is("one call is blocked", h.total(4), 1);
        c.is("handover: talks on", h.state(1), 1);
        c.is("handover: talks on", h.servingCell(1), 0);
        c.is("handover: talks on", h.remaining(1), 497);
        c.is("handover: no request", h.requestCell(1), -1);
    }

    @Says(at = AT, value = "Then the clock advances by one tick.")
    @Break({"void advance(Network network, int ticks)", "network.clock++", "network.clock += 2"})
    @Break({"void advance(Network network, int ticks)", "network.clock++;",
            "network.clock += network.mobileCount > 0 ? 1 : 0;"})
    static void advancing(Check c) {
        CellHandover h = new CellHandover();
        for (int tick = 1; tick <= 5; tick++) {
            h.run(1);
            c.is("clock", h.clock(), tick);
        }
        h.addMobile(0, 0, 0, 0);
        h.run(60);
        c.is("clock", h.clock(), 65);
    }

    @Says(at = AT, value = "A mobile that begins to talk in step 5 is not measured, and has no reports, before the next "
            + "tick.")
    @Break({"private void serve(", "mobile.beginToTalk(cell);",
            "mobile.beginToTalk(cell); mobile.addReport(cell, 60, network.window);"})
    @Break({"void advance(Network network, int ticks)", "decideHandovers(network);",
            "decideHandovers(network); if (network.totalOf(SERVED_REQUESTS) > 0) { measureLevels(network); }"})
    static void notMeasuredYet(Check c) {
        // Cell 1 is a neighbour without access, so that it takes no call.
        CellHandover h = Nets.with(Nets.cell(60, 1, 1, 0, 0), Nets.cell(50, 1, 0, 99, 0), "relation 0 1 0;");
        Nets.callers(h, 2);
        h.hangUp(0);
        h.run(1);
        c.is("begins to talk", h.state(1), 1);
        c.is("no report", h.reportCount(1, 0), 0);
        c.is("no report", h.reportCount(1, 1), 0);
        c.is("no average", h.average(1, 0), -1);
        c.is("no end of a tick either", h.remaining(1), 500);
        h.run(1);
        c.is("the next tick", h.reportCount(1, 0), 1);
        c.is("the next tick", h.reportCount(1, 1), 1);
        c.is("the next tick", h.remaining(1), 499);
    }
}
