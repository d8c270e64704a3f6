/** The sentences of promises 37 and 38. */
final class ForecastSentences {
    /** Mobile 1 talks in cell 0 (level 40), while cell 1 (level 50) is free; a relation leads there. */
    private static final String PAIR = "cell 0 0 40 10 1 6 0 0;cell 0 0 50 10 1 6 0 0;relation 1 0 0;relation 0 1 3;";
    private static final int[] NONE_OF_TWO = {-1, 2, 7, 8, 12, Integer.MIN_VALUE, Integer.MAX_VALUE};

    private ForecastSentences() {
    }

    private static CellHandover pair(String settings) {
        CellHandover h = Nets.with(PAIR, settings);
        Nets.callers(h, 2);
        h.hangUp(0);
        return h;
    }

    @Says(at = "Promise 37", value = {"Forecasts the serving cell of a mobile by simulating ticks on a copy; nothing changes.",
        "- `ticks`: 0 to 60"})
    @Break({"public int forecastCell", "trial.copyFrom(now);", ""})
    @Break({"public int forecastCell", "simulator.advance(trial, ticks)", "simulator.advance(now, ticks)"})
    @Break({"", "MAX_TICKS = 60", "MAX_TICKS = 59"})
    @Break({"private void requireTicks", "requireRange(ticks, 0, most)", "requireRange(ticks, 1, most)"})
    static void forecasts(Check c) {
        CellHandover h = Nets.with("cell 0 0 60 10 1 6 0 0;cell 999 0 60 10 1 6 1 0;relation 0 1 0;",
                Nets.settings(1, 1, 5, 30, 0, 3));
        h.addMobile(0, 0, 10, 0);
        h.call(0, 500);
        h.addMobile(0, 0, 0, 0);
        h.addMobile(0, 0, 0, 0);
        c.is("waits", h.call(1, 5), -3);
        String before = Check.picture(h);
        // In tick 50 the mobile comes to 500, where cell 1 (499 away) has the greater level.
        for (int ticks = 0; ticks <= 60; ticks++) {
            c.is("the one that moves, after " + ticks, h.forecastCell(0, ticks), ticks < 50 ? 0 : 1);
            c.is("the idle one", h.forecastCell(2, ticks), -1);
        }
        c.holds("nothing changes", before.equals(Check.picture(h)));
        h.setVelocity(0, 99, 0);
        String faster = Check.picture(h);
        int[] due = {-1, -1, -1, -1, -1, -1, -1, 0, 0, 0, 0, 0, -1, -1};
        for (int ticks = 0; ticks < due.length; ticks++) {
            c.is("the one that waits, after " + ticks, h.forecastCell(1, ticks), due[ticks]);
        }
        c.holds("nothing changes", faster.equals(Check.picture(h)));
        c.is("and so it comes", h.run(6), 1);
        c.is("waits", h.state(1), 2);
        h.run(1);
        c.is("talks", h.servingCell(1), 0);
        h.run(5);
        c.is("ended", h.servingCell(1), -1);
    }

    @Says(at = "Promise 37", value = "Returns the serving cell afterwards; NONE if the mobile does not talk then.")
    @Break({"public int forecastCell", "return trial.mobileAt(mobile).serving", "return now.mobileAt(mobile).serving"})
    @Break({"void becomeIdle", "serving = NONE;", ""})
    static void notTalkingThen(Check c) {
        CellHandover h = Nets.with("cell 0 0 60 10 1 1 0 0;");
        h.addMobile(0, 0, 0, 0);
        h.call(0, 7);
        Nets.caller(h, 0, 0);
        h.addMobile(0, 0, 0, 0);
        c.is("talks now", h.forecastCell(0, 0), 0);
        c.is("its last tick is to come", h.forecastCell(0, 6), 0);
        c.is("completed", h.forecastCell(0, 7), -1);
        c.is("waits now", h.forecastCell(1, 0), -1);
        c.is("waits then", h.forecastCell(1, 4), -1);
        c.is("blocked then", h.forecastCell(1, 60), -1);
        c.is("idle", h.forecastCell(2, 60), -1);
        CellHandover g = Nets.with("cell 0 0 4 10 1 1 0 0;");
        Nets.caller(g, 0, 0);
        c.is("two bad ticks", g.forecastCell(0, 2), 0);
        c.is("dropped", g.forecastCell(0, 3), -1);
    }

    @Says(at = "Promise 37", value = "Throws `NoSuchElementException` if there is no such mobile (checked first)")
    @Break({"public int forecastCell", "requireMobile(mobile);", ""})
    @Break({"public int forecastCell", "requireMobile(mobile);\n        requireTicks(ticks, MAX_TICKS);",
            "requireTicks(ticks, MAX_TICKS);\n        requireMobile(mobile);"})
    static void noMobile(Check c) {
        CellHandover h = pair("");
        for (int mobile : NONE_OF_TWO) {
            c.noSuch("mobile " + mobile, () -> h.forecastCell(mobile, 0));
            c.noSuch("checked first", () -> h.forecastCell(mobile, -1));
            c.noSuch("checked first", () -> h.forecastCell(mobile, 61));
        }
        c.noSuch("no mobiles", () -> new CellHandover().forecastCell(0, 0));
    }

    /** At the clock 99960, with a mobile that talks; it takes more than 512 calls to get there. */
    private static CellHandover late() {
        CellHandover h = Nets.with(PAIR);
        for (int i = 0; i < 1666; i++) {
            h.run(60);
        }
        Nets.callers(h, 2);
        h.hangUp(0);
        return h;
    }

    @Says(at = "Promise 37", value = "Throws `IllegalArgumentException` if ticks is out of range or the clock would exceed "
            + "100000")
    @Break({"", "MAX_TICKS = 60", "MAX_TICKS = 61"})
    @Break({"private void requireTicks", "requireRange(ticks, 0, most)", "requireRange(ticks, Integer.MIN_VALUE, most)"})
    @Break({"", "MAX_CLOCK = 100000", "MAX_CLOCK = 99999"})
    @Break({"", "MAX_CLOCK = 100000", "MAX_CLOCK = 100001"})
    @Break({"public int forecastCell", "requireTicks(ticks, MAX_TICKS)", "requireRange(ticks, 0, MAX_TICKS)"})
    static void wrongTicks(Check c) {
        CellHandover h = pair("");
        h.run(9);
        String before = Check.picture(h);
        int[] wrong = {-1, 61, Integer.MIN_VALUE, Integer.MAX_VALUE};
        for (int ticks : wrong) {
            c.illegal("ticks " + ticks, () -> h.forecastCell(1, ticks));
        }
        c.holds("nothing changes", before.equals(Check.picture(h)));
        CellHandover g = late();
        c.is("100000", g.forecastCell(1, 40), 1);
        c.illegal("100001", () -> g.forecastCell(1, 41));
        c.illegal("100020", () -> g.forecastCell(1, 60));
        g.run(40);
        c.is("no ticks", g.forecastCell(1, 0), 1);
        c.illegal("100001", () -> g.forecastCell(1, 1));
    }

    @Says(at = "Promise 38", value = {"Finds the best hysteresis of a relation: every value from 0 to 30 is tried by "
        + "simulating ticks on a copy.", "- `ticks`: 0 to 30", "Returns the best value;"})
    @Break({"public int bestHysteresis", "value <= MAX_HYSTERESIS", "value < MAX_HYSTERESIS"})
    @Break({"public int bestHysteresis", "int value = 0", "int value = 1"})
    @Break({"public int bestHysteresis", "trial.copyFrom(now);\n            trial.", "trial."})
    @Break({"public int bestHysteresis", "trial.relationAt(from, to).hysteresis = value;",
            "now.relationAt(from, to).hysteresis = value; trial.relationAt(from, to).hysteresis = value;"})
    @Break({"", "MAX_TRIAL_TICKS = 30", "MAX_TRIAL_TICKS = 29"})
    @Break({"private void requireTicks", "requireRange(ticks, 0, most)", "requireRange(ticks, 1, most)"})
    static void everyValue(Check c) {
        // The handover to cell 1 is avoided from the margin on.
        for (int margin = 0; margin <= 31; margin++) {
            CellHandover h = Nets.with(Nets.cell(40, 1, 0, 0, 0), Nets.cell(40 + margin, 1, 0, 0, 0),
                    Nets.cell(99, 1, 0, 0, 0), "relation 2 0 0;relation 0 1 9;", Nets.settings(1, 1, 5, 4, 5, 3));
            Nets.callers(h, 2);
            c.is("servingCell", h.servingCell(1), 0);
            String before = Check.picture(h);
            c.is("no ticks", h.bestHysteresis(0, 1, 0), 0);
            c.is("a tick", h.bestHysteresis(0, 1, 1), margin <= 30 ? margin : 0);
            c.is("thirty ticks", h.bestHysteresis(0, 1, 30), margin <= 30 ? margin : 0);
            c.is("another relation", h.bestHysteresis(2, 0, 30), 0);
            c.holds("nothing changes", before.equals(Check.picture(h)));
        }
    }

    @Says(at = "Promise 38", value = "A value is better if fewer calls are dropped in these ticks,")
    @Break({"public int bestHysteresis", "drops < fewestDrops || drops == fewestDrops && handovers < fewestHandovers",
            "handovers < fewestHandovers"})
    @Break({"public int bestHysteresis", "drops < fewestDrops || ", ""})
    static void fewerDrops(Check c) {
        // In cell 0 the call is dropped in the third tick.
        CellHandover h = pair(Nets.settings(1, 1, 5, 4, 45, 3));
        c.is("two ticks: no drop, no handover", h.bestHysteresis(0, 1, 2), 10);
        c.is("three ticks: no drop", h.bestHysteresis(0, 1, 3), 0);
        h.setHysteresis(0, 1, 30);
        c.is("whatever it is now", h.bestHysteresis(0, 1, 3), 0);
        c.is("and so it comes", h.run(3), 0);
        c.is("dropped", h.total(3), 1);
        c.is("that was not in these ticks", h.bestHysteresis(0, 1, 30), 0);
        // A mobile that leaves cell 0 for cell 1 too early is dropped there.
        CellHandover g = Nets.with("cell 0 0 40 10 1 0 0 0;cell 0 0 45 50 1 0 0 0;cell 0 0 99 50 1 0 0 0;",
                "relation 2 0 0;relation 0 1 0;", Nets.settings(1, 1, 5, 4, 20, 2));
        Nets.caller(g, 0, 0);
        g.addMobile(0, 0, 0, 0);
        c.is("cell 0", g.call(1, 500), 0);
        g.setVelocity(1, 4, 0);
        c.is("a margin of 3 in the first tick", g.bestHysteresis(0, 1, 1), 3);
        c.is("no drop from 3 on", g.bestHysteresis(0, 1, 30), 3);
    }

    @Says(at = "Promise 38", value = {"then if there are fewer handovers;", "among equal ones the smallest value is the best."})
    @Break({"public int bestHysteresis", "handovers < fewestHandovers", "handovers <= fewestHandovers"})
    @Break({"public int bestHysteresis", "handovers < fewestHandovers", "handovers > fewestHandovers"})
    @Break({"public int bestHysteresis", " || drops == fewestDrops && handovers < fewestHandovers", ""})
    @Break({"public int bestHysteresis", "fewestDrops = drops;", ""})
    @Break({"public int bestHysteresis", "fewestHandovers = handovers;", ""})
    static void fewerHandovers(Check c) {
        CellHandover h = Nets.with("cell 0 0 60 10 1 1 0 0;cell 100 0 60 10 1 1 0 0;relation 0 1 0;relation 1 0 0;",
                Nets.settings(1, 1, 0, 4, 5, 3));
        h.addMobile(50, 0, 10, 0);
        h.call(0, 500);
        // The margin of cell 1 is 2, 4, 6, 8, and 10 from there on.
        c.is("one tick", h.bestHysteresis(0, 1, 1), 2);
        c.is("two ticks", h.bestHysteresis(0, 1, 2), 4);
        c.is("three ticks", h.bestHysteresis(0, 1, 3), 6);
        c.is("thirty ticks", h.bestHysteresis(0, 1, 30), 10);
        c.is("the other relation alters nothing", h.bestHysteresis(1, 0, 1), 0);
        c.is("no ticks", h.bestHysteresis(0, 1, 0), 0);
        // Another call is dropped whatever the value is.
        CellHandover g = Nets.with(PAIR, "cell 999 0 9 10 1 0 0 0;", Nets.settings(1, 1, 5, 4, 30, 3));
        Nets.callers(g, 2);
        g.hangUp(0);
        c.is("the call that is dropped", Nets.caller(g, 999, 0), 2);
        c.is("one drop, no handover", g.bestHysteresis(0, 1, 30), 10);
    }

    @Says(at = "Promise 38", value = "-2 if there is no such relation.")
    @Break({"public int bestHysteresis", "return REFUSED", "return NONE"})
    @Break({"public int bestHysteresis", "if (!now.relationAt(from, to).exists)", "if (false)"})
    static void noRelation(Check c) {
        CellHandover h = Nets.with("cell 0 0 40 10 1 6 0 0;cell 0 0 50 10 1 6 0 0;relation 0 1 3;");
        c.is("back", h.bestHysteresis(1, 0, 5), -2);
        c.is("back", h.bestHysteresis(1, 0, 0), -2);
        c.is("to itself", h.bestHysteresis(0, 0, 30), -2);
        c.is("there is one", h.bestHysteresis(0, 1, 5), 0);
    }

    @Says(at = "Promise 38", value = {"Throws `NoSuchElementException` if there is no such cell (checked first)"})
    @Break({"public int bestHysteresis", "requireCell(from);", ""})
    @Break({"public int bestHysteresis", "requireCell(to);", ""})
    @Break({"public int bestHysteresis", "requireCell(to);\n        requireTicks(ticks, MAX_TRIAL_TICKS);",
            "requireTicks(ticks, MAX_TRIAL_TICKS);\n        requireCell(to);"})
    static void noCell(Check c) {
        CellHandover h = pair("");
        for (int cell : NONE_OF_TWO) {
            c.noSuch("from " + cell, () -> h.bestHysteresis(cell, 1, 5));
            c.noSuch("to " + cell, () -> h.bestHysteresis(0, cell, 5));
            c.noSuch("checked first", () -> h.bestHysteresis(cell, 1, -1));
            c.noSuch("checked first", () -> h.bestHysteresis(0, cell, 31));
        }
    }

    @Says(at = "Promise 38", value = "Throws `IllegalArgumentException` if ticks is out of range or the clock would exceed "
            + "100000")
    @Break({"", "MAX_TRIAL_TICKS = 30", "MAX_TRIAL_TICKS = 31"})
    @Break({"private void requireTicks", "requireRange(ticks, 0, most)", "requireRange(ticks, Integer.MIN_VALUE, most)"})
    @Break({"", "MAX_CLOCK = 100000", "MAX_CLOCK = 99999"})
    @Break({"", "MAX_CLOCK = 100000", "MAX_CLOCK = 100001"})
    @Break({"public int bestHysteresis", "requireTicks(ticks, MAX_TRIAL_TICKS)", "requireRange(ticks, 0, MAX_TRIAL_TICKS)"})
    @Break({"public int bestHysteresis", "requireTicks(ticks", "if (!now.relationAt(from, to).exists) { return REFUSED; } "
            + "requireTicks(ticks"})
    static void wrongTrials(Check c) {
        CellHandover h = Nets.with("cell 0 0 40 10 1 6 0 0;cell 0 0 50 10 1 6 0 0;relation 0 1 3;");
        h.run(9);
        String before = Check.picture(h);
        int[] wrong = {-1, 31, 60, Integer.MIN_VALUE, Integer.MAX_VALUE};
        for (int ticks : wrong) {
            c.illegal("ticks " + ticks, () -> h.bestHysteresis(0, 1, ticks));
            c.illegal("without a relation", () -> h.bestHysteresis(1, 0, ticks));
        }
        c.holds("nothing changes", before.equals(Check.picture(h)));
        CellHandover g = late();
        g.run(30);
        c.is("100000", g.bestHysteresis(0, 1, 10), 0);
        c.illegal("100001", () -> g.bestHysteresis(0, 1, 11));
        c.illegal("100020", () -> g.bestHysteresis(0, 1, 30));
        g.run(10);
        c.is("no ticks", g.bestHysteresis(0, 1, 0), 0);
        c.illegal("100001", () -> g.bestHysteresis(0, 1, 1));
    }
}
