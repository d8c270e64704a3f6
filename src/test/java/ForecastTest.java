/** Promises 37 and 38: forecasts on a copy. */
public final class ForecastTest {
    private static final Check CHECK = new Check();

    public static void main(String[] args) {
        forecast();
        forecastOfEnds();
        forecastErrors();
        best();
        bestAgainstDrops();
        bestOfOscillation();
        greatestIsBest();
        bestErrors();
        CHECK.end();
    }

    private static CellHandover walker() {
        CellHandover h = Check.loaded("cell 0 0 60 10 1 1 0 0;cell 100 0 60 10 1 1 0 0;relation 0 1 0;relation 1 0 0;"
                + "settings 1 1 5 4 5 3;");
        h.addMobile(40, 0, 10, 0);
        h.call(0, 20);
        return h;
    }

    private static void forecast() {
        CellHandover h = walker();
        h.addMobile(0, 0, 0, 0);
        h.addMobile(0, 0, 0, 0);
        CHECK.is("by retry", h.call(1, 20), 1);
        CHECK.is("waits", h.call(2, 7), -3);
        h.hangUp(1);
        String before = Check.picture(h);
        CHECK.is("0 ticks", h.forecastCell(0, 0), 0);
        CHECK.is("1 tick", h.forecastCell(0, 1), 0);
        CHECK.is("2 ticks", h.forecastCell(0, 2), 1);
        CHECK.is("waiting", h.forecastCell(2, 2), -1);
        CHECK.is("set up", h.forecastCell(2, 3), 0);
        CHECK.is("ended", h.forecastCell(2, 10), -1);
        CHECK.is("idle", h.forecastCell(1, 5), -1);
        CHECK.is("ended", h.forecastCell(0, 60), -1);
        CHECK.holds("nothing changes", before.equals(Check.picture(h)));
        CHECK.is("and so it comes", h.run(2), 1);
        CHECK.is("servingCell", h.servingCell(0), 1);
        CHECK.is("state", h.state(2), 2);
        h.run(1);
        CHECK.is("servingCell", h.servingCell(2), 0);
        h.run(7);
        CHECK.is("servingCell", h.servingCell(2), -1);
    }

    private static void forecastOfEnds() {
        CellHandover h = walker();
        h.setVelocity(0, 0, 0);
        CHECK.is("19 ticks", h.forecastCell(0, 19), 0);
        CHECK.is("20 ticks", h.forecastCell(0, 20), -1);
        h.run(19);
        CHECK.is("0 ticks", h.forecastCell(0, 0), 0);
        CHECK.is("1 tick", h.forecastCell(0, 1), -1);
        CHECK.is("state", h.state(0), 1);
        CHECK.is("undoCount", h.undoCount(), 4);
    }

    private static void forecastErrors() {
        CellHandover h = walker();
        String before = Check.picture(h);
        CHECK.noSuch("no mobile 1", () -> h.forecastCell(1, 0));
        CHECK.noSuch("no mobile -1", () -> h.forecastCell(-1, 0));
        CHECK.noSuch("checked first", () -> h.forecastCell(1, 61));
        CHECK.illegal("-1", () -> h.forecastCell(0, -1));
        CHECK.illegal("61", () -> h.forecastCell(0, 61));
        CHECK.illegal("max", () -> h.forecastCell(0, Integer.MAX_VALUE));
        CHECK.holds("nothing changes", before.equals(Check.picture(h)));
    }

    /** A mobile that stands, served by cell 0 with level 40 after a retry, while cell 1 with level 50 is free. */
    private static CellHandover stander(int dropLevel) {
        CellHandover h = Check.loaded("cell 0 0 40 10 1 0 0 0;cell 0 0 50 10 1 0 0 0;relation 1 0 0;relation 0 1 3;"
                + "settings 1 1 5 4 " + dropLevel + " 3;");
        h.addMobile(0, 0, 0, 0);
        h.call(0, 99);
        h.addMobile(0, 0, 0, 0);
        h.call(1, 99);
        h.hangUp(0);
        return h;
    }

    private static void best() {
        CellHandover h = stander(5);
        String before = Check.picture(h);
        CHECK.is("no ticks", h.bestHysteresis(0, 1, 0), 0);
        CHECK.is("no handover from 10 on", h.bestHysteresis(0, 1, 1), 10);
        CHECK.is("no handover from 10 on", h.bestHysteresis(0, 1, 30), 10);
        CHECK.is("the other way", h.bestHysteresis(1, 0, 30), 0);
        CHECK.holds("nothing changes", before.equals(Check.picture(h)));
        CHECK.is("hysteresis", h.hysteresis(0, 1), 3);
        CHECK.is("run", h.run(1), 1);
        CHECK.is("then nothing is to be done", h.bestHysteresis(0, 1, 30), 0);
        CellHandover g = new CellHandover();
        Check.load(g, "cell 0 0 40 10 1 0 0 0;cell 0 0 99 10 1 0 0 0;relation 1 0 0;relation 0 1 30;settings 1 1 5 4 5 3;");
        g.addMobile(0, 0, 0, 0);
        g.call(0, 99);
        g.addMobile(0, 0, 0, 0);
        g.call(1, 99);
        g.hangUp(0);
        CHECK.is("all values hand over", g.bestHysteresis(0, 1, 5), 0);
    }

    private static void bestAgainstDrops() {
        CellHandover h = stander(45);
        CHECK.is("two ticks", h.bestHysteresis(0, 1, 2), 10);
        CHECK.is("in the third the call would be dropped", h.bestHysteresis(0, 1, 3), 0);
        h.run(3);
        CHECK.is("not dropped", h.total(3), 0);
        // Drops and handovers of earlier ticks do not count.
        CellHandover g = stander(45);
        g.setHysteresis(0, 1, 30);
        g.run(3);
        CHECK.is("dropped", g.total(3), 1);
        g.call(0, 99);
        g.call(1, 99);
        g.hangUp(0);
        CHECK.is("two ticks", g.bestHysteresis(0, 1, 2), 10);
        CHECK.is("three ticks", g.bestHysteresis(0, 1, 3), 0);
    }

    private static void bestOfOscillation() {
        CellHandover h = Check.loaded("cell 0 0 60 10 1 1 0 0;cell 100 0 60 10 1 1 0 0;relation 0 1 0;relation 1 0 0;"
                + "settings 1 1 0 4 5 3;");
        h.addMobile(50, 0, 10, 0);
        h.call(0, 99);
        // Margins 2, 4, 6 and so on: 10 at the place of cell 1, and 10 behind it.
        CHECK.is("one tick", h.bestHysteresis(0, 1, 1), 2);
        CHECK.is("two ticks", h.bestHysteresis(0, 1, 2), 4);
        CHECK.is("four ticks", h.bestHysteresis(0, 1, 4), 8);
        CHECK.is("thirty ticks", h.bestHysteresis(0, 1, 30), 10);
    }

    private static void greatestIsBest() {
        CellHandover h = Check.loaded("cell 0 0 40 10 1 0 0 0;cell 0 0 70 10 1 0 0 0;relation 1 0 0;relation 0 1 3;");
        h.addMobile(0, 0, 0, 0);
        h.call(0, 99);
        h.addMobile(0, 0, 0, 0);
        h.call(1, 99);
        h.hangUp(0);
        CHECK.is("margin 30", h.bestHysteresis(0, 1, 5), 30);
        CHECK.is("not kept", h.bestHysteresis(0, 1, 5), 30);
    }

    private static void bestErrors() {
        CellHandover h = stander(5);
        String before = Check.picture(h);
        CHECK.is("no relation", h.bestHysteresis(0, 0, 5), -2);
        CHECK.noSuch("no cell 2", () -> h.bestHysteresis(2, 0, 5));
        CHECK.noSuch("no cell 2", () -> h.bestHysteresis(0, 2, 5));
        CHECK.noSuch("no cell -1", () -> h.bestHysteresis(-1, 0, 5));
        CHECK.noSuch("no cell -1", () -> h.bestHysteresis(0, -1, 5));
        CHECK.noSuch("checked first", () -> h.bestHysteresis(0, 2, 31));
        CHECK.illegal("-1", () -> h.bestHysteresis(0, 1, -1));
        CHECK.illegal("31", () -> h.bestHysteresis(0, 1, 31));
        CHECK.illegal("max", () -> h.bestHysteresis(0, 1, Integer.MAX_VALUE));
        CHECK.illegal("before -2", () -> h.bestHysteresis(0, 0, 31));
        CHECK.holds("nothing changes", before.equals(Check.picture(h)));
    }
}
