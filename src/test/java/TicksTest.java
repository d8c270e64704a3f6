/** Promises 19 and 26 to 36: the steps of a tick, and what tells of them. */
public final class TicksTest {
    /**
     * Three cells at one place, so that the levels there are the powers: cell 1 (50) is the strongest, then 2 (48), then
     * 0 (40). Calls begin at 1, and by directed retry at 2, then at 0.
     */
    private static final String LINKS = "relation 1 0 0;relation 1 2 0;relation 0 1 5;relation 0 2 0;";
    private static final Check CHECK = new Check();

    public static void main(String[] args) {
        movement();
        reports();
        forgottenReports();
        completion();
        drops();
        badTicksAfterHandover();
        droppedRequest();
        hysteresisEdge();
        lowLevelEdge();
        minimumReports();
        accessOfCandidates();
        ranking();
        tiesInRanking();
        fourCandidates();
        mobileZeroWaits();
        refusals();
        emergencyRequest();
        requestElsewhere();
        expiredHandover();
        servedHandover();
        queueOrder();
        setUpFromQueue();
        expiredSetUp();
        cellOrderUp();
        cellOrderDown();
        twoHandoversInATick();
        smallerMobileFirst();
        bars();
        noPingPong();
        emergencyIgnoresBars();
        barsOfNewCall();
        congestion();
        defaults();
        runErrors();
        getterErrors();
        lastTick();
        CHECK.end();
    }

    private static String three(String zero, String one, String two) {
        return "cell 0 0 40 10 " + zero + ";cell 0 0 50 10 " + one + ";cell 0 0 48 10 " + two + ";" + LINKS;
    }

    /** Mobiles that stand at the origin; each calls at once. */
    private static CellHandover calling(String network, int... durations) {
        CellHandover h = Check.loaded(network);
        for (int i = 0; i < durations.length; i++) {
            h.addMobile(0, 0, 0, 0);
            h.call(i, durations[i]);
        }
        return h;
    }

    private static void movement() {
        CellHandover h = new CellHandover();
        h.addMobile(990, 15, 20, -10);
        h.addMobile(0, 999, -1, 1);
        CHECK.is("run", h.run(1), 0);
        CHECK.is("clock", h.clock(), 1);
        CHECK.is("x", h.x(0), 999);
        CHECK.is("y", h.y(0), 5);
        CHECK.is("x", h.x(1), 0);
        CHECK.is("y", h.y(1), 999);
        h.run(1);
        CHECK.is("y", h.y(0), 0);
        h.setVelocity(0, -99, 99);
        h.run(10);
        CHECK.is("x", h.x(0), 9);
        CHECK.is("y", h.y(0), 990);
        CHECK.is("clock", h.clock(), 12);
        h.run(1);
        CHECK.is("x", h.x(0), 0);
        CHECK.is("y", h.y(0), 999);
    }

    private static void reports() {
        CellHandover h = Check.loaded("cell 0 0 99 10 1 0 0 0;cell 500 0 99 10 1 0 0 0;cell 0 0 99 1 1 0 0 0;"
                + "relation 0 1 0;relation 2 0 0;settings 3 3 5 4 5 3;");
        h.addMobile(0, 0, 40, 0);
        CHECK.is("call", h.call(0, 500), 0);
        CHECK.is("no average yet", h.average(0, 0), -1);
        CHECK.is("no candidate yet", h.candidate(0, 0), -1);
        int[] averages0 = {95, 93, 91, 87, 83};
        int[] averages1 = {53, 55, 57, 61, 65};
        for (int tick = 0; tick < 5; tick++) {
            h.run(1);
            CHECK.is("average of 0", h.average(0, 0), averages0[tick]);
            CHECK.is("average of 1", h.average(0, 1), averages1[tick]);
            CHECK.is("reports of 0", h.reportCount(0, 0), Math.min(3, tick + 1));
            CHECK.is("reports of 1", h.reportCount(0, 1), Math.min(3, tick + 1));
            CHECK.is("average of 2", h.average(0, 2), -1);
            CHECK.is("reports of 2", h.reportCount(0, 2), 0);
        }
    }

    private static void forgottenReports() {
        CellHandover h = Check.loaded("cell 0 0 60 10 1 0 0 0;cell 100 0 60 10 1 0 0 0;cell 100 0 60 10 1 0 0 0;"
                + "relation 0 1 1;relation 1 2 0;settings 4 2 5 4 5 3;");
        h.addMobile(50, 0, 10, 0);
        CHECK.is("call", h.call(0, 500), 0);
        h.run(1);
        CHECK.is("one report is too few", h.servingCell(0), 0);
        h.run(1);
        CHECK.is("servingCell", h.servingCell(0), 1);
        CHECK.is("kept reports of 0", h.reportCount(0, 0), 2);
        CHECK.is("kept reports of 1", h.reportCount(0, 1), 2);
        CHECK.is("average of 0", h.average(0, 0), 53);
        CHECK.is("average of 1", h.average(0, 1), 56);
        h.run(1);
        CHECK.is("forgotten reports of 0", h.reportCount(0, 0), 0);
        CHECK.is("average of 0", h.average(0, 0), -1);
        CHECK.is("three reports of 1", h.reportCount(0, 1), 3);
        CHECK.is("one report of 2", h.reportCount(0, 2), 1);
    }

    private static void completion() {
        CellHandover h = calling("cell 0 0 10 10 2 0 0 0;settings 1 1 0 1 99 1;", 1, 2);
        CHECK.is("run", h.run(1), 0);
        CHECK.is("ends before it is dropped", h.total(2), 1);
        CHECK.is("the other one is dropped", h.total(3), 1);
        CHECK.is("state", h.state(0), 0);
        CHECK.is("state", h.state(1), 0);
        CHECK.is("remaining", h.remaining(1), 0);
        CellHandover g = calling("cell 0 0 60 10 2 0 0 0;", 1, 3);
        g.run(1);
        CHECK.is("remaining", g.remaining(1), 2);
        CHECK.is("servingCell", g.servingCell(0), -1);
        CHECK.is("reportCount", g.reportCount(0, 0), 0);
        CHECK.is("busy", g.busyChannels(0), 1);
        g.run(1);
        CHECK.is("state", g.state(1), 1);
        g.run(1);
        CHECK.is("state", g.state(1), 0);
        CHECK.is("completed", g.total(2), 2);
        CHECK.is("dropped", g.total(3), 0);
        // A request ends with its call.
        CellHandover r = calling(three("1 2 0 99", "1 2 0 0", "1 2 0 0") + "settings 1 1 5 9 0 9;", 9, 9, 2);
        r.run(1);
        CHECK.is("requestCell", r.requestCell(2), 1);
        r.run(1);
        CHECK.is("completed", r.total(2), 1);
        CHECK.is("requestCell", r.requestCell(2), -1);
        CHECK.is("queue", r.queueLength(1), 0);
    }

    private static void drops() {
        CellHandover h = Check.loaded("cell 0 0 60 10 1 0 0 0;settings 1 1 5 4 50 2;");
        h.addMobile(90, 0, 10, 0);
        CHECK.is("call", h.call(0, 500), 0);
        h.run(1);
        CHECK.is("average", h.average(0, 0), 50);
        h.run(1);
        CHECK.is("average", h.average(0, 0), 49);
        CHECK.is("one bad tick", h.state(0), 1);
        h.setVelocity(0, -10, 0);
        h.run(1);
        CHECK.is("a good one", h.average(0, 0), 50);
        h.setVelocity(0, 10, 0);
        h.run(1);
        CHECK.is("one bad tick again", h.state(0), 1);
        CHECK.is("dropped", h.total(3), 0);
        h.run(1);
        CHECK.is("two in a row", h.state(0), 0);
        CHECK.is("dropped", h.total(3), 1);
        CHECK.is("completed", h.total(2), 0);
        CHECK.is("busy", h.busyChannels(0), 0);
        CHECK.is("remaining", h.remaining(0), 0);
        CHECK.is("not congested any more", h.congestedTicks(0), 4);
        CellHandover g = calling("cell 0 0 10 10 1 0 0 0;settings 1 1 5 4 11 3;", 50);
        g.run(2);
        g.hangUp(0);
        g.call(0, 50);
        g.run(2);
        CHECK.is("a new call has no bad ticks", g.state(0), 1);
        g.run(1);
        CHECK.is("until the third", g.state(0), 0);
    }

    private static void badTicksAfterHandover() {
        CellHandover h = calling(three("1 0 0 0", "1 0 0 0", "1 0 0 0") + "settings 1 1 5 4 60 2;", 99, 1, 99);
        CHECK.is("servingCell", h.servingCell(2), 0);
        h.hangUp(0);
        CHECK.is("to cell 2 with margin 8, not to 1 with 5", h.run(1), 1);
        CHECK.is("servingCell", h.servingCell(2), 2);
        h.run(1);
        CHECK.is("one bad tick since the handover", h.state(2), 1);
        h.run(1);
        CHECK.is("two", h.state(2), 0);
        CHECK.is("dropped", h.total(3), 1);
        // The same with a handover from the queue.
        CellHandover g = calling(three("1 0 0 99", "1 1 0 0", "1 0 0 0") + "settings 1 1 5 9 45 3;", 3, 99, 99);
        g.run(2);
        CHECK.is("requestCell", g.requestCell(2), 1);
        CHECK.is("the third bad tick comes before the queue", g.run(1), 0);
        CHECK.is("dropped", g.total(3), 1);
        CellHandover f = calling(three("1 0 0 99", "1 1 0 0", "1 0 0 0") + "settings 1 1 5 9 55 3;", 2, 99, 99);
        CHECK.is("served in the second tick", f.run(2), 1);
        CHECK.is("the other call is dropped", f.run(2), 0);
        CHECK.is("state", f.state(1), 0);
        CHECK.is("two bad ticks since the handover", f.state(2), 1);
        f.run(1);
        CHECK.is("three", f.state(2), 0);
        CHECK.is("dropped", f.total(3), 2);
    }

    private static void droppedRequest() {
        CellHandover h = calling(three("1 0 0 99", "1 1 0 0", "1 0 0 0") + "settings 1 1 5 9 45 2;", 99, 99, 99);
        h.run(1);
        CHECK.is("requestCell", h.requestCell(2), 1);
        CHECK.is("queue", h.queueLength(1), 1);
        h.run(1);
        CHECK.is("dropped", h.total(3), 1);
        CHECK.is("requestCell", h.requestCell(2), -1);
        CHECK.is("queue", h.queueLength(1), 0);
        CHECK.is("not expired", h.total(7), 0);
    }

    private static CellHandover walker(int hysteresis, int low) {
        CellHandover h = Check.loaded("cell 0 0 60 10 1 0 0 " + low + ";cell 100 0 60 10 1 0 0 0;relation 0 1 " + hysteresis
                + ";settings 1 1 5 4 5 3;");
        h.addMobile(40, 0, 10, 0);
        h.call(0, 500);
        return h;
    }

    private static void hysteresisEdge() {
        CellHandover h = walker(0, 0);
        CHECK.is("margin 0", h.run(1), 0);
        CHECK.is("candidate", h.candidate(0, 0), -1);
        CHECK.is("margin 2", h.run(1), 1);
        CHECK.is("successes", h.successes(0, 1), 1);
        CHECK.is("total", h.total(0), 1);
        CHECK.is("no ping-pong", h.total(1), 0);
        CHECK.is("no request was served", h.total(6), 0);
        CHECK.is("margin 1", walker(1, 0).run(2), 1);
        CHECK.is("margin 0", walker(2, 0).run(2), 0);
        CHECK.is("margin 2", walker(2, 0).run(3), 1);
        CHECK.is("never", walker(30, 0).run(8), 0);
        CHECK.is("another hysteresis", withHysteresis(30, 1).run(2), 1);
        CHECK.is("another hysteresis", withHysteresis(0, 2).run(2), 0);
    }

    private static CellHandover withHysteresis(int before, int after) {
        CellHandover h = walker(before, 0);
        CHECK.is("setHysteresis", h.setHysteresis(0, 1, after), before);
        return h;
    }

    private static void lowLevelEdge() {
        CHECK.is("54 is not below 54", walker(30, 54).run(2), 0);
        CHECK.is("54 is below 55", walker(30, 55).run(2), 1);
        CHECK.is("55 is below 99, but the margin is 0", walker(30, 99).run(1), 0);
    }

    private static void minimumReports() {
        CellHandover h = calling(three("1 0 0 0", "1 0 0 0", "1 0 0 0") + "settings 4 3 5 4 5 3;", 99, 99, 99);
        h.hangUp(1);
        CHECK.is("one, two", h.run(2), 0);
        CHECK.is("candidate", h.candidate(2, 0), -1);
        CHECK.is("three", h.run(1), 1);
        CHECK.is("servingCell", h.servingCell(2), 2);
    }

    private static void accessOfCandidates() {
        String links = "relation 1 0 0;relation 0 1 0;settings 1 1 5 4 5 3;";
        CellHandover h = calling("cell 0 0 40 10 1 0 0 0;cell 0 0 50 10 1 0 50 0;" + links, 99, 99);
        h.hangUp(0);
        CHECK.is("at its access level", h.run(1), 1);
        CellHandover g = Check.loaded("cell 0 0 40 10 1 0 0 0;cell 0 0 50 10 1 0 50 0;" + links);
        g.addMobile(0, 0, 0, 0);
        g.addMobile(0, 0, 10, 0);
        g.call(0, 99);
        CHECK.is("call", g.call(1, 99), 0);
        g.hangUp(0);
        CHECK.is("level 49 is below it", g.run(1), 0);
        CHECK.is("candidate", g.candidate(1, 0), -1);
        CHECK.is("refusals", g.refusals(0, 1), 0);
    }

    private static void ranking() {
        CellHandover h = calling(three("1 0 0 0", "1 0 0 0", "1 0 0 0") + "settings 1 1 5 4 5 3;", 99, 99, 99);
        h.run(1);
        CHECK.is("first", h.candidate(2, 0), 2);
        CHECK.is("second", h.candidate(2, 1), 1);
        CHECK.is("third", h.candidate(2, 2), -1);
        CHECK.is("far", h.candidate(2, Integer.MAX_VALUE), -1);
        CHECK.is("the strongest has none", h.candidate(0, 0), -1);
        h.setHysteresis(0, 1, 1);
        CHECK.is("margin 9 before 8", h.candidate(2, 0), 1);
        h.setHysteresis(0, 2, 8);
        CHECK.is("margin 0", h.candidate(2, 1), -1);
        h.setHysteresis(0, 1, 30);
        CHECK.is("none", h.candidate(2, 0), -1);
        CellHandover g = calling(three("1 0 0 41", "1 0 0 0", "1 0 0 0") + "settings 1 1 5 4 5 3;", 99, 99, 99);
        g.run(1);
        CHECK.is("in an emergency", g.candidate(2, 0), 1);
        CHECK.is("in an emergency", g.candidate(2, 1), 2);
        g.setHysteresis(0, 1, 30);
        CHECK.is("the hysteresis does not count", g.candidate(2, 0), 1);
        g.hangUp(2);
        CHECK.is("idle", g.candidate(2, 0), -1);
    }

    private static void tiesInRanking() {
        CellHandover h = calling("cell 0 0 40 10 1 0 0 0;cell 0 0 50 10 1 0 0 0;cell 0 0 48 10 1 0 0 0;"
                + "cell 0 0 47 10 1 0 0 0;relation 1 0 0;relation 0 3 0;relation 0 2 1;relation 0 1 3;settings 1 1 5 4 5 3;",
                99, 99);
        h.setHysteresis(0, 1, 30);
        h.setHysteresis(0, 2, 30);
        h.setHysteresis(0, 3, 30);
        CHECK.is("none", h.run(1), 0);
        h.setHysteresis(0, 1, 3);
        h.setHysteresis(0, 2, 1);
        h.setHysteresis(0, 3, 0);
        CHECK.is("margin 7", h.candidate(1, 0), 1);
        CHECK.is("margin 7", h.candidate(1, 1), 2);
        CHECK.is("margin 7", h.candidate(1, 2), 3);
        CHECK.is("no more", h.candidate(1, 3), -1);
        h.setHysteresis(0, 3, 1);
        h.setHysteresis(0, 2, 3);
        CHECK.is("margins 7, 5, 6", 100 * h.candidate(1, 0) + 10 * h.candidate(1, 1) + h.candidate(1, 2), 132);
        CHECK.is("the first is full", h.run(1), 1);
        CHECK.is("servingCell", h.servingCell(1), 3);
        CHECK.is("refusals of 1", h.refusals(0, 1), 1);
        CHECK.is("refusals of 2", h.refusals(0, 2), 0);
        CHECK.is("refusals of 3", h.refusals(0, 3), 0);
        CHECK.is("successes of 3", h.successes(0, 3), 1);
    }

    /** Each later cell has a greater margin, so that it goes before all that are there. */
    private static void fourCandidates() {
        CellHandover h = calling("cell 0 0 40 10 1 0 0 0;cell 0 0 50 10 1 0 0 0;cell 0 0 51 10 1 0 0 0;"
                + "cell 0 0 52 10 1 0 0 0;cell 0 0 53 10 1 0 0 0;cell 0 0 60 10 1 0 0 0;relation 5 0 0;"
                + "relation 0 1 0;relation 0 2 0;relation 0 3 0;relation 0 4 0;settings 1 1 5 4 5 3;", 99, 99);
        CHECK.is("servingCell", h.servingCell(1), 0);
        h.setHysteresis(0, 1, 30);
        h.setHysteresis(0, 2, 30);
        h.setHysteresis(0, 3, 30);
        h.setHysteresis(0, 4, 30);
        h.run(1);
        int[][] hystereses = {{0, 0, 0, 0}, {0, 2, 4, 6}, {0, 1, 5, 0}, {9, 1, 0, 1}};
        int[] due = {4321, 1234, 4123, 3421};
        for (int i = 0; i < due.length; i++) {
            for (int cell = 1; cell <= 4; cell++) {
                h.setHysteresis(0, cell, hystereses[i][cell - 1]);
            }
            int ranked = 0;
            for (int rank = 0; rank < 4; rank++) {
                ranked = 10 * ranked + h.candidate(1, rank);
            }
            CHECK.is("ranking " + i, ranked, due[i]);
        }
    }

    private static void mobileZeroWaits() {
        CellHandover h = Check.loaded("cell 0 0 60 10 1 2 0 0;settings 4 2 5 2 5 3;");
        h.addMobile(0, 0, 0, 0);
        h.addMobile(0, 0, 0, 0);
        h.addMobile(0, 0, 0, 0);
        h.addMobile(0, 0, 0, 0);
        h.call(3, 99);
        h.call(0, 99);
        CHECK.is("queue", h.queueLength(0), 1);
        CHECK.is("queued", h.queued(0, 0), 0);
        CHECK.is("waits too", h.call(1, 99), -3);
        CHECK.is("queued", h.queued(0, 0), 0);
        CHECK.is("queued", h.queued(0, 1), 1);
        CHECK.is("the queue is full", h.call(2, 99), -5);
        h.run(3);
        CHECK.is("expired", h.total(7), 2);
        CHECK.is("state", h.state(0), 0);
        h.call(0, 99);
        h.hangUp(3);
        h.run(1);
        CHECK.is("served", h.servingCell(0), 0);
    }

    private static void refusals() {
        CellHandover h = calling(three("1 2 0 40", "1 2 0 0", "1 2 0 0") + "settings 1 1 5 4 5 3;", 99, 99, 99);
        CHECK.is("all are full", h.run(1), 0);
        CHECK.is("refusals of 1", h.refusals(0, 1), 1);
        CHECK.is("refusals of 2", h.refusals(0, 2), 1);
        CHECK.is("no request without an emergency", h.requestCell(2), -1);
        h.hangUp(0);
        CHECK.is("the second one is free", h.run(1), 1);
        CHECK.is("servingCell", h.servingCell(2), 1);
        CHECK.is("refusals of 1", h.refusals(0, 1), 1);
        CHECK.is("refusals of 2", h.refusals(0, 2), 2);
        CHECK.is("successes of 1", h.successes(0, 1), 1);
        CHECK.is("successes of 2", h.successes(0, 2), 0);
        CHECK.is("the other way", h.successes(1, 0), 0);
        CHECK.is("no relation", h.successes(2, 0), 0);
        CHECK.is("no relation", h.refusals(2, 0), 0);
        CHECK.is("handovers", h.total(0), 1);
        CHECK.is("busy", h.busyChannels(0), 0);
        CHECK.is("busy", h.busyChannels(1), 1);
    }

    private static void emergencyRequest() {
        CellHandover h = calling(three("1 2 0 41", "1 2 0 0", "1 2 0 0") + "settings 1 1 5 4 5 3;", 99, 99, 99);
        CHECK.is("run", h.run(1), 0);
        CHECK.is("refusals of 1", h.refusals(0, 1), 1);
        CHECK.is("refusals of 2", h.refusals(0, 2), 1);
        CHECK.is("requestCell", h.requestCell(2), 1);
        CHECK.is("queue of 1", h.queueLength(1), 1);
        CHECK.is("queue of 2", h.queueLength(2), 0);
        CHECK.is("queued", h.queued(1, 0), 2);
        CHECK.is("queued", h.queued(1, 1), -1);
        CHECK.is("state", h.state(2), 1);
        CHECK.is("still busy", h.busyChannels(0), 1);
        CHECK.is("not yet there", h.busyChannels(1), 1);
        h.run(1);
        CHECK.is("not considered again", h.refusals(0, 1), 1);
        CHECK.is("but listed", h.candidate(2, 0), 1);
    }

    private static void requestElsewhere() {
        CellHandover h = calling(three("1 2 0 41", "1 0 0 0", "1 1 0 0") + "settings 1 1 5 4 5 3;", 99, 99, 99);
        h.run(1);
        CHECK.is("the first has no queue", h.requestCell(2), 2);
        CellHandover g = calling(three("1 2 0 41", "1 0 0 0", "1 0 0 0") + "settings 1 1 5 4 5 3;", 99, 99, 99);
        g.run(3);
        CHECK.is("no queue at all", g.requestCell(2), -1);
        CHECK.is("refused again and again", g.refusals(0, 1), 3);
        CHECK.is("refused again and again", g.refusals(0, 2), 3);
        CellHandover f = calling(three("2 2 0 41", "1 1 0 0", "1 1 0 0") + "settings 1 1 5 4 5 3;", 99, 99, 99, 99, 99);
        CHECK.is("waits for set-up", f.requestCell(4), 1);
        f.run(1);
        CHECK.is("the queue of 1 is full", f.requestCell(2), 2);
        CHECK.is("both are full", f.requestCell(3), -1);
    }

    private static void expiredHandover() {
        CellHandover h = calling(three("1 2 0 41", "1 2 0 0", "1 2 0 0") + "settings 1 1 5 4 5 3;", 99, 99, 99);
        h.run(4);
        CHECK.is("requestCell", h.requestCell(2), 1);
        CHECK.is("expired", h.total(7), 0);
        h.run(1);
        CHECK.is("requestCell", h.requestCell(2), -1);
        CHECK.is("expired", h.total(7), 1);
        CHECK.is("state", h.state(2), 1);
        CHECK.is("not blocked", h.total(4), 0);
        CHECK.is("refusals", h.refusals(0, 1), 1);
        h.run(1);
        CHECK.is("requested again", h.requestCell(2), 1);
        CHECK.is("refusals", h.refusals(0, 1), 2);
        h.run(4);
        CHECK.is("expired again", h.total(7), 2);
    }

    private static void servedHandover() {
        CellHandover h = calling(three("1 2 0 41", "1 2 0 0", "1 2 0 0") + "settings 1 1 5 9 5 3;", 2, 99, 99);
        CHECK.is("run", h.run(1), 0);
        CHECK.is("run", h.run(1), 1);
        CHECK.is("servingCell", h.servingCell(2), 1);
        CHECK.is("requestCell", h.requestCell(2), -1);
        CHECK.is("queue", h.queueLength(1), 0);
        CHECK.is("served", h.total(6), 1);
        CHECK.is("handovers", h.total(0), 1);
        CHECK.is("successes", h.successes(0, 1), 1);
        CHECK.is("completed", h.total(2), 1);
        CHECK.holds("barred", h.isBarred(2, 0));
        CHECK.is("reports stay", h.reportCount(2, 0), 1);
        h.run(4);
        CHECK.holds("up to the clock 1 + 5", h.isBarred(2, 0));
        CHECK.is("clock", h.clock(), 6);
        h.run(1);
        CHECK.fails("behind it", h.isBarred(2, 0));
        CHECK.is("never expired", h.total(7), 0);
    }

    private static void queueOrder() {
        CellHandover h = calling(three("2 0 0 41", "1 6 0 0", "1 0 0 0") + "settings 1 1 5 9 5 3;", 99, 99, 99, 99);
        for (int i = 4; i < 9; i++) {
            h.addMobile(0, 0, 0, 0);
        }
        h.call(8, 9);
        h.call(6, 9);
        h.call(7, 9);
        CHECK.is("first", h.queued(1, 0), 6);
        CHECK.is("second", h.queued(1, 1), 7);
        CHECK.is("third", h.queued(1, 2), 8);
        h.run(1);
        h.call(4, 9);
        CHECK.is("full", h.call(5, 9), -5);
        CHECK.is("queue", h.queueLength(1), 6);
        int[] due = {2, 3, 6, 7, 8, 4, -1};
        for (int i = 0; i < due.length; i++) {
            CHECK.is("queued " + i, h.queued(1, i), due[i]);
        }
        CHECK.is("far", h.queued(1, Integer.MAX_VALUE), -1);
        h.hangUp(0);
        CHECK.is("run", h.run(1), 1);
        CHECK.is("the first handover", h.servingCell(2), 1);
        h.hangUp(2);
        CHECK.is("run", h.run(1), 1);
        CHECK.is("the second handover", h.servingCell(3), 1);
        h.hangUp(3);
        CHECK.is("run", h.run(1), 0);
        CHECK.is("the first set-up", h.servingCell(6), 1);
        CHECK.is("the others wait", h.queueLength(1), 3);
    }

    private static void setUpFromQueue() {
        CellHandover h = calling("cell 0 0 60 10 1 6 0 0;", 1, 7, 8);
        CHECK.is("queue", h.queueLength(0), 2);
        CHECK.is("run", h.run(1), 0);
        CHECK.is("completed", h.total(2), 1);
        CHECK.is("served", h.total(6), 1);
        CHECK.is("state", h.state(1), 1);
        CHECK.is("servingCell", h.servingCell(1), 0);
        CHECK.is("remaining", h.remaining(1), 7);
        CHECK.is("not measured", h.reportCount(1, 0), 0);
        CHECK.is("average", h.average(1, 0), -1);
        CHECK.is("candidate", h.candidate(1, 0), -1);
        CHECK.is("the next waits", h.queued(0, 0), 2);
        CHECK.is("congested", h.congestedTicks(0), 1);
        CHECK.is("no directed retry", h.total(5), 0);
        h.run(1);
        CHECK.is("remaining", h.remaining(1), 6);
        CHECK.is("measured", h.reportCount(1, 0), 1);
        CHECK.is("waiting costs nothing", h.remaining(2), 8);
        CellHandover g = calling("cell 0 0 60 10 2 6 0 0;", 1, 1, 7, 7, 7);
        g.run(1);
        CHECK.is("two are served", g.total(6), 2);
        CHECK.is("servingCell", g.servingCell(2), 0);
        CHECK.is("servingCell", g.servingCell(3), 0);
        CHECK.is("state", g.state(4), 2);
    }

    private static void expiredSetUp() {
        CellHandover h = calling("cell 0 0 60 10 1 6 0 0;settings 4 2 5 2 5 3;", 99, 7);
        h.run(1);
        h.addMobile(0, 0, 0, 0);
        h.call(2, 9);
        h.run(1);
        CHECK.is("state", h.state(1), 2);
        h.run(1);
        CHECK.is("state", h.state(1), 0);
        CHECK.is("remaining", h.remaining(1), 0);
        CHECK.is("requestCell", h.requestCell(1), -1);
        CHECK.is("expired", h.total(7), 1);
        CHECK.is("blocked", h.total(4), 1);
        CHECK.is("the other one waits", h.state(2), 2);
        h.run(1);
        CHECK.is("the other one", h.state(2), 0);
        CHECK.is("expired", h.total(7), 2);
        CHECK.is("blocked", h.total(4), 2);
        CHECK.is("served", h.total(6), 0);
    }

    private static void cellOrderUp() {
        CellHandover h = calling("cell 0 0 40 10 1 6 0 99;cell 0 0 50 10 1 6 0 0;relation 0 1 0;relation 1 0 0;"
                + "settings 1 1 5 30 5 3;", 3, 99);
        CHECK.is("by retry", h.servingCell(1), 0);
        h.addMobile(999, 999, 0, 0);
        // Both levels are 0 there, so that cell 0 is the strongest.
        CHECK.is("waits at 0, all being full", h.call(2, 99), -3);
        CHECK.is("requestCell", h.requestCell(2), 0);
        h.run(1);
        CHECK.is("requestCell", h.requestCell(1), 1);
        h.run(1);
        CHECK.is("cell 0 comes before its channel is free", h.run(1), 1);
        CHECK.is("servingCell", h.servingCell(1), 1);
        CHECK.is("state", h.state(2), 2);
        CHECK.is("cell 0 was free at the end", h.congestedTicks(0), 2);
        CHECK.is("cell 1 was not", h.congestedTicks(1), 3);
        h.run(1);
        CHECK.is("in the next tick", h.servingCell(2), 0);
        CHECK.is("served", h.total(6), 2);
    }

    private static void cellOrderDown() {
        CellHandover h = calling("cell 0 0 50 10 1 6 0 0;cell 0 0 40 5 1 6 0 99;relation 0 1 0;relation 1 0 0;"
                + "settings 1 1 5 30 5 3;", 3, 99);
        CHECK.is("by retry", h.servingCell(1), 1);
        h.addMobile(400, 0, 0, 0);
        CHECK.is("waits", h.call(2, 99), -3);
        CHECK.is("at 1, which has level 20 there", h.requestCell(2), 1);
        h.run(2);
        CHECK.is("requestCell", h.requestCell(1), 0);
        CHECK.is("run", h.run(1), 1);
        CHECK.is("servingCell", h.servingCell(1), 0);
        CHECK.is("in the same tick", h.servingCell(2), 1);
        CHECK.is("served", h.total(6), 2);
    }

    private static void twoHandoversInATick() {
        CellHandover h = calling("cell 0 0 40 10 1 6 0 99;cell 0 0 60 10 1 6 0 0;cell 0 0 70 10 1 0 0 0;"
                + "relation 2 1 0;relation 1 0 0;relation 2 0 0;relation 0 1 0;relation 0 2 0;relation 1 2 0;"
                + "settings 1 1 5 30 5 3;", 2, 2, 99);
        CHECK.is("the strongest", h.servingCell(0), 2);
        CHECK.is("a retry", h.servingCell(1), 1);
        CHECK.is("a retry", h.servingCell(2), 0);
        h.run(1);
        CHECK.is("cell 2 has no queue", h.requestCell(2), 1);
        CHECK.is("from the queue to 1, then decided to 2", h.run(1), 2);
        CHECK.is("servingCell", h.servingCell(2), 2);
        CHECK.is("successes", h.successes(0, 1), 1);
        CHECK.is("successes", h.successes(1, 2), 1);
        CHECK.is("served", h.total(6), 1);
        CHECK.holds("barred", h.isBarred(2, 0));
        CHECK.holds("barred", h.isBarred(2, 1));
        CHECK.fails("the serving cell", h.isBarred(2, 2));
    }

    private static void smallerMobileFirst() {
        CellHandover h = calling(three("2 0 0 0", "1 0 0 0", "1 0 0 0") + "settings 1 1 5 4 5 3;", 99, 99, 99, 99);
        h.hangUp(1);
        CHECK.is("one free channel", h.run(1), 1);
        CHECK.is("servingCell", h.servingCell(2), 2);
        CHECK.is("servingCell", h.servingCell(3), 0);
        CHECK.is("refused", h.refusals(0, 2), 1);
        CHECK.is("refused", h.refusals(0, 1), 1);
        // A channel that a handover frees can be taken by a later mobile in the same step.
        CellHandover g = calling("cell 0 0 40 10 1 0 0 0;cell 0 0 50 10 1 0 0 0;cell 0 0 60 10 1 0 0 0;"
                + "relation 2 1 0;relation 2 0 0;relation 1 2 0;relation 0 1 0;settings 1 1 5 4 5 3;", 99, 99, 99);
        CHECK.is("servingCell", g.servingCell(2), 0);
        g.hangUp(0);
        CHECK.is("run", g.run(1), 2);
        CHECK.is("servingCell", g.servingCell(1), 2);
        CHECK.is("servingCell", g.servingCell(2), 1);
        CHECK.is("not full at the end", g.congestedTicks(0), 0);
        CHECK.is("full at the end", g.congestedTicks(1), 1);
    }

    /** A mobile that goes from cell 0 to cell 1 and back; it is handed over at the clock 1. */
    private static CellHandover returner(int pingPongTime, int low) {
        CellHandover h = Check.loaded("cell 0 0 60 10 1 0 0 " + low + ";cell 100 0 60 10 1 0 0 " + low
                + ";relation 0 1 0;relation 1 0 0;settings 1 1 " + pingPongTime + " 4 5 3;");
        h.addMobile(40, 0, 10, 0);
        h.call(0, 500);
        CHECK.is("there", h.run(2), 1);
        h.setVelocity(0, -10, 0);
        CHECK.is("in the middle", h.run(1), 0);
        return h;
    }

    private static void bars() {
        CellHandover h = returner(3, 0);
        CHECK.holds("barred at 3", h.isBarred(0, 0));
        CHECK.fails("not the serving cell", h.isBarred(0, 1));
        CHECK.is("barred at 3", h.run(1), 0);
        CHECK.holds("barred at 4", h.isBarred(0, 0));
        CHECK.is("no candidate at 4", h.candidate(0, 0), -1);
        CHECK.is("barred at 4", h.run(1), 0);
        CHECK.fails("not barred at 5", h.isBarred(0, 0));
        CHECK.is("a candidate at 5", h.candidate(0, 0), 0);
        CHECK.is("not barred at 5", h.run(1), 1);
        CHECK.is("no ping-pong", h.total(1), 0);
        CHECK.is("handovers", h.total(0), 2);
        CHECK.holds("barred the other way", h.isBarred(0, 1));
        CHECK.fails("free again", h.isBarred(0, 0));
        CHECK.is("no refusal", h.refusals(1, 0), 0);
        CHECK.is("successes", h.successes(1, 0), 1);
    }

    private static void noPingPong() {
        CellHandover h = returner(1, 0);
        CHECK.fails("not barred at 3", h.isBarred(0, 0));
        CHECK.is("back at 3", h.run(1), 1);
        CHECK.is("no ping-pong", h.total(1), 0);
        CellHandover g = returner(0, 99);
        CHECK.fails("not barred", g.isBarred(0, 0));
        CHECK.is("back at 3", g.run(1), 1);
        CHECK.is("no ping-pong", g.total(1), 0);
    }

    private static void emergencyIgnoresBars() {
        CellHandover h = returner(2, 99);
        CHECK.holds("barred at 3", h.isBarred(0, 0));
        CHECK.is("back all the same", h.run(1), 1);
        CHECK.is("a ping-pong", h.total(1), 1);
        CHECK.is("handovers", h.total(0), 2);
        CellHandover g = returner(1, 99);
        CHECK.is("back", g.run(1), 1);
        CHECK.is("not barred, no ping-pong", g.total(1), 0);
        CellHandover f = returner(50, 58);
        CHECK.is("54 is below 58: back", f.run(1), 1);
        CHECK.holds("still barred", f.isBarred(0, 0));
        CHECK.holds("barred too", f.isBarred(0, 1));
    }

    private static void barsOfNewCall() {
        CellHandover h = returner(50, 0);
        CHECK.holds("barred", h.isBarred(0, 0));
        h.hangUp(0);
        CHECK.fails("idle", h.isBarred(0, 0));
        CHECK.is("call", h.call(0, 9), 0);
        CHECK.fails("a new call", h.isBarred(0, 0));
        CHECK.is("reportCount", h.reportCount(0, 0), 0);
        CHECK.is("reportCount", h.reportCount(0, 1), 0);
        CellHandover g = calling("cell 0 0 60 10 1 6 0 0;", 9, 9);
        CHECK.fails("waiting", g.isBarred(1, 0));
    }

    private static void congestion() {
        CellHandover h = calling("cell 0 0 60 10 2 0 0 0;cell 500 500 60 10 1 0 0 0;", 4, 2);
        h.run(1);
        CHECK.is("congested", h.congestedTicks(0), 1);
        h.run(1);
        CHECK.is("one call has ended", h.congestedTicks(0), 1);
        CHECK.is("never", h.congestedTicks(1), 0);
        CHECK.is("busy", h.busyChannels(0), 1);
        h.call(1, 9);
        CHECK.is("busy", h.busyChannels(0), 2);
        CHECK.is("calls do not count", h.congestedTicks(0), 1);
        h.run(1);
        CHECK.is("congested", h.congestedTicks(0), 2);
        h.run(5);
        CHECK.is("congested", h.congestedTicks(0), 2);
        // A handover in step 6 frees a channel before it is looked at.
        CellHandover g = walker(0, 0);
        g.run(2);
        CHECK.is("before the handover", g.congestedTicks(0), 1);
        CHECK.is("at the handover", g.congestedTicks(1), 1);
    }

    private static void defaults() {
        CellHandover h = calling("cell 0 0 40 10 1 6 0 99;cell 0 0 50 10 1 6 0 0;relation 1 0 0;relation 0 1 0;", 99, 99, 99);
        CHECK.is("servingCell", h.servingCell(1), 0);
        CHECK.is("state", h.state(2), 2);
        h.run(1);
        CHECK.is("one report is too few", h.requestCell(1), -1);
        h.run(1);
        CHECK.is("two are enough", h.requestCell(1), 1);
        h.run(2);
        CHECK.is("state", h.state(2), 2);
        CHECK.is("window", h.reportCount(0, 1), 4);
        h.run(1);
        CHECK.is("the queue time is 4", h.state(2), 0);
        CHECK.is("the window is 4", h.reportCount(0, 1), 4);
        h.hangUp(0);
        CHECK.is("handover", h.run(1), 1);
        CHECK.is("clock", h.clock(), 6);
        h.run(4);
        CHECK.holds("the ping-pong time is 5", h.isBarred(1, 0));
        h.run(1);
        CHECK.fails("the ping-pong time is 5", h.isBarred(1, 0));
        CellHandover g = calling("cell 0 0 4 10 1 0 0 0;", 99);
        g.run(2);
        CHECK.is("the drop time is 3", g.state(0), 1);
        g.run(1);
        CHECK.is("the drop time is 3", g.state(0), 0);
        CellHandover f = calling("cell 0 0 5 10 1 0 0 0;", 99);
        f.run(9);
        CHECK.is("the drop level is 5", f.state(0), 1);
    }

    private static void runErrors() {
        CellHandover h = calling("cell 0 0 60 10 1 0 0 0;", 500);
        CHECK.is("run 0", h.run(0), 0);
        CHECK.is("recorded", h.undoCount(), 3);
        CHECK.is("clock", h.clock(), 0);
        CHECK.is("run 60", h.run(60), 0);
        CHECK.is("clock", h.clock(), 60);
        CHECK.is("remaining", h.remaining(0), 440);
        String before = Check.picture(h);
        CHECK.illegal("run -1", () -> h.run(-1));
        CHECK.illegal("run 61", () -> h.run(61));
        CHECK.illegal("run min", () -> h.run(Integer.MIN_VALUE));
        CHECK.illegal("run max", () -> h.run(Integer.MAX_VALUE));
        CHECK.holds("nothing changes", before.equals(Check.picture(h)));
    }

    private static void getterErrors() {
        CellHandover h = calling("cell 0 0 60 10 1 0 0 0;cell 0 0 60 10 1 0 0 0;relation 0 1 0;", 500);
        int[] none = {-1, 2, 8, 12, Integer.MIN_VALUE, Integer.MAX_VALUE};
        for (int i : none) {
            CHECK.noSuch("average", () -> h.average(i, 0));
            CHECK.noSuch("average", () -> h.average(0, i));
            CHECK.noSuch("reportCount", () -> h.reportCount(i, 0));
            CHECK.noSuch("reportCount", () -> h.reportCount(0, i));
            CHECK.noSuch("isBarred", () -> h.isBarred(i, 0));
            CHECK.noSuch("isBarred", () -> h.isBarred(0, i));
            CHECK.noSuch("candidate", () -> h.candidate(i, 0));
            CHECK.noSuch("busyChannels", () -> h.busyChannels(i));
            CHECK.noSuch("queueLength", () -> h.queueLength(i));
            CHECK.noSuch("queued", () -> h.queued(i, 0));
            CHECK.noSuch("successes", () -> h.successes(i, 0));
            CHECK.noSuch("successes", () -> h.successes(0, i));
            CHECK.noSuch("refusals", () -> h.refusals(i, 0));
            CHECK.noSuch("refusals", () -> h.refusals(0, i));
            CHECK.noSuch("congestedTicks", () -> h.congestedTicks(i));
        }
        CHECK.noSuch("candidate", () -> h.candidate(0, -1));
        CHECK.noSuch("candidate", () -> h.candidate(0, Integer.MIN_VALUE));
        CHECK.noSuch("queued", () -> h.queued(0, -1));
        CHECK.noSuch("queued", () -> h.queued(0, Integer.MIN_VALUE));
        CHECK.noSuch("mobile 1", () -> h.average(1, 0));
        CHECK.is("a cell to itself", h.successes(0, 0), 0);
        CHECK.is("a cell to itself", h.refusals(1, 1), 0);
        CHECK.is("total -1", h.total(-1), -1);
        CHECK.is("total 8", h.total(8), -1);
        CHECK.is("total min", h.total(Integer.MIN_VALUE), -1);
        CHECK.is("total max", h.total(Integer.MAX_VALUE), -1);
    }

    /** More calls than an object is promised for, for want of another way to the last tick. */
    private static void lastTick() {
        CellHandover h = Check.loaded("cell 0 0 60 10 1 0 0 0;cell 0 0 60 10 1 0 0 0;relation 0 1 0;");
        h.addMobile(0, 0, 0, 0);
        for (int i = 0; i < 1666; i++) {
            h.run(60);
        }
        CHECK.is("clock", h.clock(), 99960);
        CHECK.illegal("run 41", () -> h.run(41));
        CHECK.illegal("forecast 41", () -> h.forecastCell(0, 41));
        CHECK.is("forecast 40", h.forecastCell(0, 40), -1);
        CHECK.is("best 30", h.bestHysteresis(0, 1, 30), 0);
        h.run(40);
        CHECK.is("clock", h.clock(), 100000);
        CHECK.illegal("run 1", () -> h.run(1));
        CHECK.illegal("best 1", () -> h.bestHysteresis(0, 1, 1));
        CHECK.illegal("before -2", () -> h.bestHysteresis(1, 0, 1));
        CHECK.noSuch("before the clock", () -> h.bestHysteresis(1, 2, 1));
        CHECK.noSuch("before the clock", () -> h.forecastCell(1, 1));
        CHECK.is("best 0", h.bestHysteresis(0, 1, 0), 0);
        CHECK.is("run 0", h.run(0), 0);
        CHECK.is("clock", h.clock(), 100000);
    }
}
