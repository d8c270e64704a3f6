/** Promises 14 to 18 and 20 to 25: mobiles, setting up and ending calls, hystereses. */
public final class OperationsTest {
    private static final String PAIR = "cell 0 0 60 10 1 1 10 20;cell 400 0 60 10 1 1 10 20;";
    private static final Check CHECK = new Check();

    public static void main(String[] args) {
        addMobile();
        setVelocity();
        callAnswers();
        callErrors();
        coverageOfCalls();
        directedRetry();
        retryNeedsAccess();
        hangUp();
        hangUpWithRequest();
        setHysteresis();
        getters();
        CHECK.end();
    }

    private static void addMobile() {
        CellHandover h = new CellHandover();
        CHECK.illegal("x -1", () -> h.addMobile(-1, 0, 0, 0));
        CHECK.illegal("x 1000", () -> h.addMobile(1000, 0, 0, 0));
        CHECK.illegal("y -1", () -> h.addMobile(0, -1, 0, 0));
        CHECK.illegal("y 1000", () -> h.addMobile(0, 1000, 0, 0));
        CHECK.illegal("vx -100", () -> h.addMobile(0, 0, -100, 0));
        CHECK.illegal("vx 100", () -> h.addMobile(0, 0, 100, 0));
        CHECK.illegal("vy -100", () -> h.addMobile(0, 0, 0, -100));
        CHECK.illegal("vy 100", () -> h.addMobile(0, 0, 0, 100));
        CHECK.is("mobiles", h.mobileCount(), 0);
        CHECK.is("undoCount", h.undoCount(), 0);
        CHECK.is("edges", h.addMobile(0, 999, -99, 99), 0);
        CHECK.is("edges", h.addMobile(999, 0, 99, -99), 1);
        CHECK.is("x", h.x(0), 0);
        CHECK.is("y", h.y(0), 999);
        CHECK.is("x", h.x(1), 999);
        CHECK.is("y", h.y(1), 0);
        for (int i = 2; i < 12; i++) {
            CHECK.is("mobile", h.addMobile(i, 2 * i, 0, 0), i);
            CHECK.is("mobiles", h.mobileCount(), i + 1);
            CHECK.is("undoCount", h.undoCount(), i + 1);
        }
        String before = Check.picture(h);
        CHECK.is("the 13th", h.addMobile(0, 0, 0, 0), -2);
        CHECK.illegal("checked first", () -> h.addMobile(0, 0, 0, 100));
        CHECK.holds("nothing changes", before.equals(Check.picture(h)));
        CHECK.is("x", h.x(11), 11);
        CHECK.is("y", h.y(11), 22);
        CHECK.is("state", h.state(11), 0);
        CHECK.is("servingCell", h.servingCell(11), -1);
        CHECK.is("remaining", h.remaining(11), 0);
        CHECK.is("requestCell", h.requestCell(11), -1);
    }

    private static void setVelocity() {
        CellHandover h = Check.loaded(PAIR);
        h.addMobile(500, 500, 1, 2);
        h.addMobile(0, 0, 0, 0);
        h.addMobile(0, 0, 0, 0);
        h.call(1, 9);
        h.call(2, 9);
        CHECK.is("idle", h.setVelocity(0, -99, 99), 0);
        CHECK.is("talking", h.setVelocity(1, 3, 4), 1);
        CHECK.is("waiting", h.setVelocity(2, 99, -99), 2);
        CHECK.is("undoCount", h.undoCount(), 8);
        String before = Check.picture(h);
        CHECK.noSuch("no mobile 3", () -> h.setVelocity(3, 0, 0));
        CHECK.noSuch("no mobile -1", () -> h.setVelocity(-1, 0, 0));
        CHECK.noSuch("checked first", () -> h.setVelocity(3, 100, 0));
        CHECK.illegal("vx -100", () -> h.setVelocity(0, -100, 0));
        CHECK.illegal("vx 100", () -> h.setVelocity(0, 100, 0));
        CHECK.illegal("vy -100", () -> h.setVelocity(0, 0, -100));
        CHECK.illegal("vy 100", () -> h.setVelocity(0, 0, 100));
        CHECK.holds("nothing changes", before.equals(Check.picture(h)));
        h.run(2);
        CHECK.is("x", h.x(0), 302);
        CHECK.is("y", h.y(0), 698);
        CHECK.is("x", h.x(1), 6);
        CHECK.is("y", h.y(1), 8);
        CHECK.is("x", h.x(2), 198);
        CHECK.is("y", h.y(2), 0);
    }

    private static void callAnswers() {
        CellHandover h = Check.loaded(PAIR);
        for (int i = 0; i < 5; i++) {
            h.addMobile(0, 0, 0, 0);
        }
        h.addMobile(400, 0, 0, 0);
        CHECK.is("talks", h.call(0, 500), 0);
        CHECK.is("state", h.state(0), 1);
        CHECK.is("servingCell", h.servingCell(0), 0);
        CHECK.is("remaining", h.remaining(0), 500);
        CHECK.is("requestCell", h.requestCell(0), -1);
        CHECK.is("busy", h.busyChannels(0), 1);
        CHECK.is("undoCount", h.undoCount(), 7);
        CHECK.is("talks already", h.call(0, 1), -2);
        CHECK.is("not recorded", h.undoCount(), 7);
        CHECK.is("waits", h.call(2, 7), -3);
        CHECK.is("state", h.state(2), 2);
        CHECK.is("servingCell", h.servingCell(2), -1);
        CHECK.is("remaining", h.remaining(2), 7);
        CHECK.is("requestCell", h.requestCell(2), 0);
        CHECK.is("busy", h.busyChannels(0), 1);
        CHECK.is("queue", h.queueLength(0), 1);
        CHECK.is("undoCount", h.undoCount(), 8);
        CHECK.is("waits already", h.call(2, 7), -2);
        CHECK.is("not recorded", h.undoCount(), 8);
        CHECK.is("blocked", h.call(1, 7), -5);
        CHECK.is("state", h.state(1), 0);
        CHECK.is("remaining", h.remaining(1), 0);
        CHECK.is("requestCell", h.requestCell(1), -1);
        CHECK.is("queue", h.queueLength(0), 1);
        CHECK.is("total", h.total(4), 1);
        CHECK.is("recorded", h.undoCount(), 9);
        CHECK.is("the other cell", h.call(5, 1), 1);
        CHECK.is("blocked again", h.call(1, 7), -5);
        CHECK.is("total", h.total(4), 2);
        h.undo();
        CHECK.is("total after undo", h.total(4), 1);
        CHECK.is("no relation, no retry", h.total(5), 0);
    }

    private static void callErrors() {
        CellHandover h = Check.loaded(PAIR);
        h.addMobile(0, 0, 0, 0);
        String before = Check.picture(h);
        CHECK.noSuch("no mobile 1", () -> h.call(1, 5));
        CHECK.noSuch("no mobile -1", () -> h.call(-1, 5));
        CHECK.noSuch("checked first", () -> h.call(1, 0));
        CHECK.illegal("duration 0", () -> h.call(0, 0));
        CHECK.illegal("duration 501", () -> h.call(0, 501));
        CHECK.illegal("duration -1", () -> h.call(0, -1));
        CHECK.holds("nothing changes", before.equals(Check.picture(h)));
        CHECK.is("duration 1", h.call(0, 1), 0);
        CHECK.illegal("checked before -2", () -> h.call(0, 501));
    }

    private static void coverageOfCalls() {
        CellHandover h = Check.loaded("cell 0 0 60 10 1 6 59 0;cell 0 0 50 10 1 6 0 0;relation 0 1 0;");
        h.addMobile(0, 20, 0, 0);
        h.addMobile(10, 9, 0, 0);
        CHECK.is("the weaker cell does not count", h.call(0, 5), -4);
        CHECK.is("not recorded", h.undoCount(), 2);
        CHECK.is("state", h.state(0), 0);
        CHECK.is("not blocked", h.total(4), 0);
        CHECK.is("at the access level", h.call(1, 5), 0);
        CHECK.is("a full cell does not count either", h.call(0, 5), -4);
        CellHandover g = new CellHandover();
        g.addMobile(0, 0, 0, 0);
        CHECK.is("without cells", g.call(0, 5), -4);
        CHECK.is("not recorded", g.undoCount(), 1);
    }

    private static void directedRetry() {
        CellHandover h = Check.loaded("cell 0 0 60 10 1 1 0 0;cell 100 0 40 10 1 6 0 0;cell 0 100 40 10 2 6 0 0;"
                + "cell 100 0 41 10 1 6 0 0;cell 0 0 59 10 8 6 0 0;"
                + "relation 0 2 0;relation 0 1 0;relation 0 3 0;relation 4 0 0;relation 1 4 0;");
        for (int i = 0; i < 8; i++) {
            h.addMobile(0, 0, 0, 0);
        }
        CHECK.is("strongest", h.call(0, 9), 0);
        CHECK.is("no retry", h.total(5), 0);
        CHECK.is("the greatest level", h.call(1, 9), 3);
        CHECK.is("one retry", h.total(5), 1);
        CHECK.is("the smallest number", h.call(2, 9), 1);
        CHECK.is("the next", h.call(3, 9), 2);
        CHECK.is("its second channel", h.call(4, 8), 2);
        CHECK.is("four retries", h.total(5), 4);
        CHECK.is("remaining", h.remaining(4), 8);
        CHECK.is("state", h.state(4), 1);
        CHECK.is("servingCell", h.servingCell(4), 2);
        CHECK.is("waits at the strongest", h.call(5, 9), -3);
        CHECK.is("requestCell", h.requestCell(5), 0);
        CHECK.is("no neighbour, no retry", h.call(6, 9), -5);
        CHECK.is("busy", h.busyChannels(4), 0);
        CHECK.is("queue of 3", h.queueLength(3), 0);
        CHECK.is("retries", h.total(5), 4);
        h.hangUp(0);
        CHECK.is("a call overtakes the queue", h.call(6, 9), 0);
        CHECK.is("still waiting", h.state(5), 2);
    }

    private static void retryNeedsAccess() {
        String strongest = "cell 0 0 60 10 1 0 0 0;";
        String links = "relation 0 1 0;relation 0 2 0;";
        CellHandover h = Check.loaded(strongest + "cell 100 0 41 10 1 0 32 0;cell 100 0 40 10 1 0 30 0;" + links);
        h.addMobile(0, 0, 0, 0);
        h.addMobile(0, 0, 0, 0);
        h.addMobile(0, 0, 0, 0);
        CHECK.is("strongest", h.call(0, 9), 0);
        CHECK.is("the one with access", h.call(1, 9), 2);
        CHECK.is("none", h.call(2, 9), -5);
        CellHandover g = Check.loaded(strongest + "cell 100 0 41 10 1 0 31 0;cell 100 0 40 10 1 0 30 0;" + links);
        g.addMobile(0, 0, 0, 0);
        g.addMobile(0, 0, 0, 0);
        g.call(0, 9);
        CHECK.is("at its access level", g.call(1, 9), 1);
    }

    private static void hangUp() {
        CellHandover h = Check.loaded(PAIR);
        h.addMobile(0, 0, 0, 0);
        h.addMobile(0, 0, 0, 0);
        CHECK.is("idle", h.hangUp(0), -2);
        CHECK.is("not recorded", h.undoCount(), 2);
        h.call(0, 9);
        h.call(1, 9);
        h.run(1);
        CHECK.is("average", h.average(0, 0), 60);
        CHECK.is("waiting", h.hangUp(1), 2);
        CHECK.is("state", h.state(1), 0);
        CHECK.is("remaining", h.remaining(1), 0);
        CHECK.is("requestCell", h.requestCell(1), -1);
        CHECK.is("queue", h.queueLength(0), 0);
        CHECK.is("talking", h.hangUp(0), 1);
        CHECK.is("state", h.state(0), 0);
        CHECK.is("remaining", h.remaining(0), 0);
        CHECK.is("servingCell", h.servingCell(0), -1);
        CHECK.is("average", h.average(0, 0), -1);
        CHECK.is("reportCount", h.reportCount(0, 0), 0);
        CHECK.is("busy", h.busyChannels(0), 0);
        CHECK.is("undoCount", h.undoCount(), 7);
        CHECK.is("idle again", h.hangUp(0), -2);
        for (int what = 0; what < 8; what++) {
            CHECK.is("total " + what, h.total(what), 0);
        }
        CHECK.is("the channel is free", h.call(1, 9), 0);
        CHECK.is("no reports of the call before", h.reportCount(1, 0), 0);
        CHECK.noSuch("no mobile 2", () -> h.hangUp(2));
        CHECK.noSuch("no mobile -1", () -> h.hangUp(-1));
    }

    private static void hangUpWithRequest() {
        CellHandover h = Check.loaded("cell 0 0 60 10 1 1 0 99;cell 100 0 60 10 1 1 0 0;relation 0 1 30;settings 1 1 5 9 0 9;");
        h.addMobile(100, 0, 0, 0);
        h.addMobile(40, 0, 20, 0);
        CHECK.is("call", h.call(0, 99), 1);
        CHECK.is("call", h.call(1, 99), 0);
        h.run(1);
        CHECK.is("requestCell", h.requestCell(1), 1);
        CHECK.is("state", h.state(1), 1);
        CHECK.is("hangUp", h.hangUp(1), 1);
        CHECK.is("requestCell", h.requestCell(1), -1);
        CHECK.is("queue", h.queueLength(1), 0);
        h.hangUp(0);
        CHECK.is("run", h.run(3), 0);
        CHECK.is("busy", h.busyChannels(1), 0);
        CHECK.is("served", h.total(6), 0);
        CHECK.is("expired", h.total(7), 0);
    }

    private static void setHysteresis() {
        CellHandover h = Check.loaded(PAIR + "relation 0 1 3;");
        CHECK.is("set", h.setHysteresis(0, 1, 30), 3);
        CHECK.is("set", h.setHysteresis(0, 1, 0), 30);
        CHECK.is("set", h.setHysteresis(0, 1, 7), 0);
        CHECK.is("hysteresis", h.hysteresis(0, 1), 7);
        CHECK.is("undoCount", h.undoCount(), 3);
        String before = Check.picture(h);
        CHECK.is("no relation", h.setHysteresis(1, 0, 5), -2);
        CHECK.is("no relation", h.setHysteresis(1, 1, 5), -2);
        CHECK.noSuch("no cell", () -> h.setHysteresis(2, 0, 5));
        CHECK.noSuch("no cell", () -> h.setHysteresis(0, 2, 5));
        CHECK.noSuch("no cell", () -> h.setHysteresis(-1, 0, 5));
        CHECK.noSuch("no cell", () -> h.setHysteresis(0, -1, 5));
        CHECK.noSuch("checked first", () -> h.setHysteresis(0, 2, 31));
        CHECK.illegal("31", () -> h.setHysteresis(0, 1, 31));
        CHECK.illegal("-1", () -> h.setHysteresis(0, 1, -1));
        CHECK.illegal("before -2", () -> h.setHysteresis(1, 0, 31));
        CHECK.holds("nothing changes", before.equals(Check.picture(h)));
        h.undo();
        CHECK.is("undone", h.hysteresis(0, 1), 0);
        h.undo();
        CHECK.is("undone", h.hysteresis(0, 1), 30);
        h.undo();
        CHECK.is("undone", h.hysteresis(0, 1), 3);
    }

    private static void getters() {
        CellHandover h = Check.loaded(PAIR);
        h.addMobile(3, 4, 0, 0);
        int[] none = {-1, 1, 12, Integer.MIN_VALUE, Integer.MAX_VALUE};
        for (int m : none) {
            CHECK.noSuch("x", () -> h.x(m));
            CHECK.noSuch("y", () -> h.y(m));
            CHECK.noSuch("state", () -> h.state(m));
            CHECK.noSuch("servingCell", () -> h.servingCell(m));
            CHECK.noSuch("remaining", () -> h.remaining(m));
            CHECK.noSuch("requestCell", () -> h.requestCell(m));
            CHECK.noSuch("hangUp", () -> h.hangUp(m));
            CHECK.noSuch("call", () -> h.call(m, 5));
        }
        CHECK.is("x", h.x(0), 3);
        CHECK.is("y", h.y(0), 4);
        CHECK.is("mobileCount", h.mobileCount(), 1);
    }
}
