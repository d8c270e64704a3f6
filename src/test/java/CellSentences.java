/** The sentences of "What it is", "Cells and levels", "Mobiles" and "Queues". */
final class CellSentences {
    private CellSentences() {
    }

    @Says(at = "What it is", value = "An object is used for at most 512 calls after it has been made")
    @Break({"", "MAX_CLOCK = 100000", "MAX_CLOCK = 30000"})
    static void theLastPromisedCall(Check c) {
        CellHandover h = new CellHandover();
        for (int call = 1; call < 510; call++) {
            h.run(60);
        }
        c.is("call 510", h.clock(), 509 * 60);
        c.is("call 511", h.addMobile(1, 2, 3, 4), 0);
        c.is("call 512", h.undo(), 11);
    }

    @Says(at = "Cells and levels", value = "Coordinates are from 0 to 999.")
    @Break({"", "MAX_COORDINATE = 999", "MAX_COORDINATE = 998"})
    @Break({"", "MAX_COORDINATE = 999", "MAX_COORDINATE = 1000"})
    static void coordinates(Check c) {
        CellHandover h = Nets.with("cell 0 999 9 1 1 0 0 0;cell 999 0 8 1 1 0 0 0;");
        c.is("a corner", h.level(0, 0, 999), 9);
        c.is("a corner", h.level(1, 999, 0), 8);
        c.is("a corner", h.strongestCell(0, 999), 0);
        c.is("a corner", h.strongestCell(999, 0), 1);
        c.is("a corner", h.addMobile(999, 0, 0, 0), 0);
        c.is("a corner", h.addMobile(0, 999, 0, 0), 1);
        c.illegal("outside", () -> h.level(0, 1000, 999));
        c.illegal("outside", () -> h.level(0, 999, 1000));
        c.illegal("outside", () -> h.strongestCell(1000, 0));
        c.illegal("outside", () -> h.addMobile(0, 1000, 0, 0));
        Nets.text(c, "cell ^1000 0 9 1 1 0 0 0;", -12);
        Nets.text(c, "cell 0 ^1000 9 1 1 0 0 0;", -12);
    }

    @Says(at = "Cells and levels", value = "There are at most 8 cells, numbered from 0 in the order of the input text.")
    @Break({"", "MAX_CELLS = 8", "MAX_CELLS = 7"})
    @Break({"", "MAX_CELLS = 8", "MAX_CELLS = 9"})
    @Break({"void readCell()", "cellAt(network.cellCount)", "cellAt(7 - network.cellCount)"})
    static void eightCells(Check c) {
        StringBuilder text = new StringBuilder();
        for (int i = 0; i < 8; i++) {
            CellHandover h = Nets.with(text.append(Nets.cell(20 + i, 1, 0, 0, 0)).toString());
            c.is("cells", h.cellCount(), i + 1);
            for (int cell = 0; cell <= i; cell++) {
                c.is("the level of cell " + cell, h.level(cell, 0, 0), 20 + cell);
            }
            int next = i + 1;
            c.noSuch("no cell " + next, () -> h.level(next, 0, 0));
        }
        Nets.text(c, text + "^cell 0 0 9 9 1 0 0 0;", -13);
    }

    @Says(at = "Cells and levels", value = "A cell has a position, a power (1 to 99)")
    @Break({"void readCell()", "power = text.takeNumber(1, 99)", "power = text.takeNumber(0, 99)"})
    @Break({"void readCell()", "power = text.takeNumber(1, 99)", "power = text.takeNumber(2, 99)"})
    @Break({"void readCell()", "power = text.takeNumber(1, 99)", "power = text.takeNumber(1, 98)"})
    @Break({"void readCell()", "power = text.takeNumber(1, 99)", "power = text.takeNumber(1, 100)"})
    static void powers(Check c) {
        Nets.text(c, "cell 0 0 ^0 10 1 0 0 0;", -12);
        c.is("power 1", Nets.with("cell 0 0 1 10 1 0 0 0;").level(0, 0, 0), 1);
        c.is("power 99", Nets.with("cell 0 0 99 10 1 0 0 0;").level(0, 0, 0), 99);
        Nets.text(c, "cell 0 0 ^100 10 1 0 0 0;", -12);
    }

    @Says(at = "Cells and levels", value = "a slope (1 to 50)")
    @Break({"void readCell()", "slope = text.takeNumber(1, 50)", "slope = text.takeNumber(0, 50)"})
    @Break({"void readCell()", "slope = text.takeNumber(1, 50)", "slope = text.takeNumber(2, 50)"})
    @Break({"void readCell()", "slope = text.takeNumber(1, 50)", "slope = text.takeNumber(1, 49)"})
    @Break({"void readCell()", "slope = text.takeNumber(1, 50)", "slope = text.takeNumber(1, 51)"})
    static void slopes(Check c) {
        Nets.text(c, "cell 0 0 60 ^0 1 0 0 0;", -12);
        c.is("slope 1", Nets.with("cell 0 0 60 1 1 0 0 0;").level(0, 100, 0), 59);
        c.is("slope 50", Nets.with("cell 0 0 60 50 1 0 0 0;").level(0, 100, 0), 10);
        Nets.text(c, "cell 0 0 60 ^51 1 0 0 0;", -12);
    }

    @Says(at = "Cells and levels", value = "a number of channels (1 to 8)")
    @Break({"void readCell()", "channels = text.takeNumber(1, 8)", "channels = text.takeNumber(0, 8)"})
    @Break({"void readCell()", "channels = text.takeNumber(1, 8)", "channels = text.takeNumber(2, 8)"})
    @Break({"void readCell()", "channels = text.takeNumber(1, 8)", "channels = text.takeNumber(1, 7)"})
    @Break({"void readCell()", "channels = text.takeNumber(1, 8)", "channels = text.takeNumber(1, 9)"})
    static void channels(Check c) {
        Nets.text(c, "cell 0 0 60 10 ^0 0 0 0;", -12);
        Nets.text(c, "cell 0 0 60 10 1 0 0 0;", 1);
        Nets.text(c, "cell 0 0 60 10 8 0 0 0;", 1);
        Nets.text(c, "cell 0 0 60 10 ^9 0 0 0;", -12);
    }

    @Says(at = "Cells and levels", value = "a queue capacity (0 to 6)")
    @Break({"void readCell()", "capacity = text.takeNumber(0, 6)", "capacity = text.takeNumber(1, 6)"})
    @Break({"void readCell()", "capacity = text.takeNumber(0, 6)", "capacity = text.takeNumber(0, 5)"})
    @Break({"void readCell()", "capacity = text.takeNumber(0, 6)", "capacity = text.takeNumber(0, 7)"})
    static void capacities(Check c) {
        Nets.text(c, "cell 0 0 60 10 1 0 0 0;", 1);
        Nets.text(c, "cell 0 0 60 10 1 6 0 0;", 1);
        Nets.text(c, "cell 0 0 60 10 1 ^7 0 0;", -12);
        Nets.text(c, "cell 0 0 60 10 1^-1 0 0;", -11);
    }

    @Says(at = "Cells and levels", value = "an access level and a low level (0 to 99 each).")
    @Break({"void readCell()", "accessLevel = text.takeNumber(0, 99)", "accessLevel = text.takeNumber(1, 99)"})
    @Break({"void readCell()", "accessLevel = text.takeNumber(0, 99)", "accessLevel = text.takeNumber(0, 98)"})
    @Break({"void readCell()", "accessLevel = text.takeNumber(0, 99)", "accessLevel = text.takeNumber(0, 100)"})
    @Break({"void readCell()", "lowLevel = text.takeNumber(0, 99)", "lowLevel = text.takeNumber(1, 99)"})
    @Break({"void readCell()", "lowLevel = text.takeNumber(0, 99)", "lowLevel = text.takeNumber(0, 98)"})
    @Break({"void readCell()", "lowLevel = text.takeNumber(0, 99)", "lowLevel = text.takeNumber(0, 100)"})
    static void accessAndLowLevels(Check c) {
        Nets.text(c, "cell 0 0 60 10 1 0 0 99;", 1);
        Nets.text(c, "cell 0 0 60 10 1 0 99 0;", 1);
        Nets.text(c, "cell 0 0 60 10 1 0 ^100 0;", -12);
        Nets.text(c, "cell 0 0 60 10 1 0 0 ^100;", -12);
    }

    @Says(at = "Cells and levels",
            value = "The distance of two points is the sum of the absolute differences of their coordinates.")
    @Break({"int levelAt", "Math.abs(px - x)", "(px - x)"})
    @Break({"int levelAt", "Math.abs(py - y)", "(py - y)"})
    @Break({"int levelAt", "+ Math.abs(py - y)", "- Math.abs(py - y)"})
    static void distances(Check c) {
        CellHandover h = Nets.with("cell 500 500 90 10 1 0 0 0;");
        int[] signs = {-1, 1};
        for (int right : signs) {
            for (int up : signs) {
                c.is("distance 300 + 200", h.level(0, 500 + 300 * right, 500 + 200 * up), 40);
            }
        }
        c.is("distance 0", h.level(0, 500, 500), 90);
    }

    @Says(at = "Cells and levels",
            value = "The level of a cell at a point is power - slope * distance / 100, or 0 if that is negative;")
    @Break({"int levelAt", "Math.max(0, power - slope * distance / 100)", "power - slope * distance / 100"})
    @Break({"int levelAt", "Math.max(0,", "Math.max(1,"})
    static void levelsAreNotNegative(Check c) {
        CellHandover h = Nets.with("cell 0 0 20 10 1 0 0 0;");
        c.is("1", h.level(0, 190, 0), 1);
        c.is("0", h.level(0, 200, 0), 0);
        c.is("-1", h.level(0, 210, 0), 0);
        c.is("-179", h.level(0, 999, 999), 0);
    }

    @Says(at = "Cells and levels", value = "the division rounds down.")
    @Break({"int levelAt", "slope * distance / 100", "(slope * distance + 99) / 100"})
    @Break({"int levelAt", "slope * distance / 100", "(slope * distance + 50) / 100"})
    static void levelsAreRounded(Check c) {
        CellHandover h = Nets.with("cell 0 0 60 1 1 0 0 0;cell 0 0 60 3 1 0 0 0;");
        c.is("1 / 100", h.level(0, 1, 0), 60);
        c.is("99 / 100", h.level(0, 99, 0), 60);
        c.is("100 / 100", h.level(0, 100, 0), 59);
        c.is("199 / 100", h.level(0, 100, 99), 59);
        c.is("99 / 100", h.level(1, 33, 0), 60);
        c.is("102 / 100", h.level(1, 34, 0), 59);
    }

    @Says(at = "Cells and levels", value = "There are at most 24 relations.")
    @Break({"", "MAX_RELATIONS = 24", "MAX_RELATIONS = 23"})
    @Break({"", "MAX_RELATIONS = 24", "MAX_RELATIONS = 25"})
    static void twentyFourRelations(Check c) {
        StringBuilder text = new StringBuilder();
        for (int i = 0; i < 6; i++) {
            text.append(Nets.cell(9, 1, 0, 0, 0));
        }
        for (int i = 0; i < 24; i++) {
            c.is("relations", Nets.with(text.toString()).relationCount(), i);
            text.append(Nets.relation(i / 5, (i / 5 + 1 + i % 5) % 6, i));
        }
        CellHandover h = Nets.with(text.toString());
        c.is("relations", h.relationCount(), 24);
        c.is("the first one", h.hysteresis(0, 1), 0);
        c.is("the last one", h.hysteresis(4, 2), 23);
        Nets.text(c, text + "^relation 4 3 1;", -13);
    }

    @Says(at = "Cells and levels", value = "A relation leads from one cell to another and has a hysteresis (0 to 30).")
    @Break({"", "MAX_HYSTERESIS = 30", "MAX_HYSTERESIS = 29"})
    @Break({"", "MAX_HYSTERESIS = 30", "MAX_HYSTERESIS = 31"})
    @Break({"void readRelation()", "takeNumber(0, MAX_HYSTERESIS)", "takeNumber(1, MAX_HYSTERESIS)"})
    @Break({"Relation relationAt", "from * MAX_CELLS + to", "Math.min(from, to) * MAX_CELLS + Math.max(from, to)"})
    static void hystereses(Check c) {
        String cells = Nets.cell(60, 1, 0, 0, 0) + Nets.cell(60, 1, 0, 0, 0);
        CellHandover h = Nets.with(cells, "relation 0 1 0;");
        c.is("hysteresis 0", h.hysteresis(0, 1), 0);
        c.is("not back", h.hysteresis(1, 0), -1);
        c.is("hysteresis 30", Nets.with(cells, "relation 1 0 30;").hysteresis(1, 0), 30);
        Nets.text(c, cells + "relation 0 1 ^31;", -12);
    }

    @Says(at = "Cells and levels",
            value = "The neighbours of a cell are the cells to which relations lead from it.")
    @Break({"private void measure(", "relationAt(mobile.serving, cell).exists",
            "relationAt(cell, mobile.serving).exists"})
    @Break({"private void measure(", "relationAt(mobile.serving, cell).exists", "relationAt(1, cell).exists"})
    static void neighbours(Check c) {
        CellHandover h = Nets.with(Nets.cell(60, 1, 0, 0, 0), Nets.cell(50, 1, 0, 0, 0), Nets.cell(40, 1, 0, 0, 0),
                "relation 0 2 30;relation 1 0 30;");
        c.is("call", Nets.caller(h, 0, 0), 0);
        h.run(1);
        c.is("a relation leads from it", h.reportCount(0, 2), 1);
        c.is("a relation leads to it", h.reportCount(0, 1), 0);
    }

    @Says(at = "Cells and levels", value = "There are six settings: the window (1 to 8, default 4)")
    @Break({"void readSettings()", "takeNumber(1, MAX_WINDOW)", "takeNumber(0, MAX_WINDOW)"})
    @Break({"void readSettings()", "takeNumber(1, MAX_WINDOW)", "takeNumber(2, MAX_WINDOW)"})
    @Break({"void readSettings()", "takeNumber(1, MAX_WINDOW)", "takeNumber(1, MAX_WINDOW - 1)"})
    @Break({"void readSettings()", "takeNumber(1, MAX_WINDOW)", "takeNumber(1, MAX_WINDOW + 1)"})
    @Break({"void setDefaults()", "window = 4", "window = 3"})
    @Break({"void setDefaults()", "window = 4", "window = 5"})
    static void windows(Check c) {
        Nets.text(c, "settings ^0 1 5 4 5 3;", -12);
        c.is("window 1", reportsAfterNine(Nets.settings(1, 1, 5, 4, 5, 3)), 1);
        c.is("window 8", reportsAfterNine(Nets.settings(8, 1, 5, 4, 5, 3)), 8);
        Nets.text(c, "settings ^9 1 5 4 5 3;", -12);
        c.is("without settings", reportsAfterNine(""), 4);
    }

    private static int reportsAfterNine(String settings) {
        CellHandover h = Nets.with(Nets.cell(60, 1, 0, 0, 0), settings);
        Nets.caller(h, 0, 0);
        h.run(9);
        return h.reportCount(0, 0);
    }

    /** The cells of two mobiles: 0 talks in cell 1, and 1 in cell 0, from where it is handed over as soon as it may. */
    private static CellHandover pair(int low, String settings) {
        CellHandover h = Nets.with(Nets.cell(40, 1, 0, 0, low), Nets.cell(50, 1, 6, 0, 0), "relation 1 0 0;relation 0 1 0;",
                settings);
        Nets.callers(h, 2);
        return h;
    }

    @Says(at = "Cells and levels", value = "the minimum number of reports (1 to the window, default 2)")
    @Break({"void readSettings()", "takeNumber(1, network.window)", "takeNumber(0, network.window)"})
    @Break({"void readSettings()", "takeNumber(1, network.window)", "takeNumber(2, network.window + 1)"})
    @Break({"void readSettings()", "takeNumber(1, network.window)", "takeNumber(1, network.window - 1)"})
    @Break({"void readSettings()", "takeNumber(1, network.window)", "takeNumber(1, network.window + 1)"})
    @Break({"void readSettings()", "takeNumber(1, network.window)", "takeNumber(1, MAX_WINDOW)"})
    @Break({"void setDefaults()", "minReports = 2", "minReports = 1"})
    @Break({"void setDefaults()", "minReports = 2", "minReports = 3"})
    static void minimumReports(Check c) {
        Nets.text(c, "settings 8 ^0 5 4 5 3;", -12);
        Nets.text(c, "settings 8 ^9 5 4 5 3;", -12);
        Nets.text(c, "settings 3 ^4 5 4 5 3;", -12);
        Nets.text(c, "settings 1 ^2 5 4 5 3;", -12);
        c.is("1 of 1", ticksToHandover(Nets.settings(1, 1, 5, 4, 5, 3)), 1);
        c.is("3 of 3", ticksToHandover(Nets.settings(3, 3, 5, 4, 5, 3)), 3);
        c.is("8 of 8", ticksToHandover(Nets.settings(8, 8, 5, 4, 5, 3)), 8);
        c.is("without settings", ticksToHandover(""), 2);
    }

    private static int ticksToHandover(String settings) {
        CellHandover h = pair(0, settings);
        h.hangUp(0);
        for (int ticks = 1; ticks < 20; ticks++) {
            if (h.run(1) > 0) {
                return ticks;
            }
        }
        return 0;
    }

    @Says(at = "Cells and levels", value = "the ping-pong time (0 to 50 ticks, default 5)")
    @Break({"void readSettings()", "takeNumber(0, 50)", "takeNumber(1, 50)"})
    @Break({"void readSettings()", "takeNumber(0, 50)", "takeNumber(0, 49)"})
    @Break({"void readSettings()", "takeNumber(0, 50)", "takeNumber(0, 51)"})
    @Break({"void setDefaults()", "pingPongTime = 5", "pingPongTime = 4"})
    @Break({"void setDefaults()", "pingPongTime = 5", "pingPongTime = 6"})
    static void pingPongTimes(Check c) {
        c.is("ping-pong time 0", barredTicks(Nets.settings(4, 2, 0, 4, 5, 3)), 0);
        c.is("ping-pong time 50", barredTicks(Nets.settings(4, 2, 50, 4, 5, 3)), 50);
        Nets.text(c, "settings 4 2 ^51 4 5 3;", -12);
        c.is("without settings", barredTicks(""), 5);
    }

    /** How often the clock advances behind the tick of a handover until the cell before is not barred any more. */
    private static int barredTicks(String settings) {
        CellHandover h = pair(0, settings);
        h.hangUp(0);
        h.run(2);
        for (int ticks = 0; ticks < 60; ticks++) {
            if (!h.isBarred(1, 0)) {
                return ticks;
            }
            h.run(1);
        }
        return -1;
    }

    @Says(at = "Cells and levels", value = "the queue time (1 to 30 ticks, default 4)")
    @Break({"void readSettings()", "takeNumber(1, 30)", "takeNumber(0, 30)"})
    @Break({"void readSettings()", "takeNumber(1, 30)", "takeNumber(2, 30)"})
    @Break({"void readSettings()", "takeNumber(1, 30)", "takeNumber(1, 29)"})
    @Break({"void readSettings()", "takeNumber(1, 30)", "takeNumber(1, 31)"})
    @Break({"void setDefaults()", "queueTime = 4", "queueTime = 3"})
    @Break({"void setDefaults()", "queueTime = 4", "queueTime = 5"})
    static void queueTimes(Check c) {
        Nets.text(c, "settings 4 2 5 ^0 5 3;", -12);
        c.is("queue time 1", waitingTicks(Nets.settings(4, 2, 5, 1, 5, 3)), 2);
        c.is("queue time 30", waitingTicks(Nets.settings(4, 2, 5, 30, 5, 3)), 31);
        Nets.text(c, "settings 4 2 5 ^31 5 3;", -12);
        c.is("without settings", waitingTicks(""), 5);
    }

    /** The number of the tick that ends the waiting for set-up: the first one has the clock at which it began. */
    private static int waitingTicks(String settings) {
        CellHandover h = Nets.with(Nets.cell(60, 1, 1, 0, 0), settings);
        Nets.callers(h, 2);
        for (int ticks = 1; ticks < 60; ticks++) {
            h.run(1);
            if (h.state(1) == 0) {
                return ticks;
            }
        }
        return 0;
    }

    @Says(at = "Cells and levels", value = "the drop level (0 to 99, default 5)")
    @Break({"void readSettings()", "dropLevel = text.takeNumber(0, 99)", "dropLevel = text.takeNumber(1, 99)"})
    @Break({"void readSettings()", "dropLevel = text.takeNumber(0, 99)", "dropLevel = text.takeNumber(0, 98)"})
    @Break({"void readSettings()", "dropLevel = text.takeNumber(0, 99)", "dropLevel = text.takeNumber(0, 100)"})
    @Break({"void setDefaults()", "dropLevel = 5", "dropLevel = 4"})
    @Break({"void setDefaults()", "dropLevel = 5", "dropLevel = 6"})
    static void dropLevels(Check c) {
        c.is("drop level 0, level 0", ticksToDrop(1, 999, Nets.settings(4, 2, 5, 4, 0, 1)), 0);
        c.is("drop level 99, level 98", ticksToDrop(98, 0, Nets.settings(4, 2, 5, 4, 99, 1)), 1);
        Nets.text(c, "settings 4 2 5 4 ^100 3;", -12);
        c.is("without settings, level 4", ticksToDrop(4, 0, ""), 3);
        c.is("without settings, level 5", ticksToDrop(5, 0, ""), 0);
    }

    @Says(at = "Cells and levels", value = "and the drop time (1 to 20 ticks, default 3).")
    @Break({"void readSettings()", "takeNumber(1, 20)", "takeNumber(0, 20)"})
    @Break({"void readSettings()", "takeNumber(1, 20)", "takeNumber(2, 20)"})
    @Break({"void readSettings()", "takeNumber(1, 20)", "takeNumber(1, 19)"})
    @Break({"void readSettings()", "takeNumber(1, 20)", "takeNumber(1, 21)"})
    @Break({"void setDefaults()", "dropTime = 3", "dropTime = 2"})
    @Break({"void setDefaults()", "dropTime = 3", "dropTime = 4"})
    static void dropTimes(Check c) {
        Nets.text(c, "settings 4 2 5 4 5 ^0;", -12);
        c.is("drop time 1", ticksToDrop(4, 0, Nets.settings(4, 2, 5, 4, 5, 1)), 1);
        c.is("drop time 20", ticksToDrop(4, 0, Nets.settings(4, 2, 5, 4, 5, 20)), 20);
        Nets.text(c, "settings 4 2 5 4 5 ^21;", -12);
        c.is("without settings", ticksToDrop(4, 0, ""), 3);
    }

    /** The number of the tick that drops a call; 0 if none of thirty does. */
    private static int ticksToDrop(int power, int x, String settings) {
        CellHandover h = Nets.with(Nets.cell(power, 1, 0, 0, 0), settings);
        Nets.caller(h, x, 0);
        for (int ticks = 1; ticks <= 30; ticks++) {
            h.run(1);
            if (h.total(3) > 0) {
                return ticks;
            }
        }
        return 0;
    }

    @Says(at = "Mobiles", value = "There are at most 12 mobiles, numbered from 0 in the order in which they were added.")
    @Break({"", "MAX_MOBILES = 12", "MAX_MOBILES = 11"})
    @Break({"", "MAX_MOBILES = 12", "MAX_MOBILES = 13"})
    static void twelveMobiles(Check c) {
        CellHandover h = new CellHandover();
        for (int i = 0; i < 12; i++) {
            c.is("addMobile", h.addMobile(100 + i, 0, 0, 0), i);
            c.is("mobiles", h.mobileCount(), i + 1);
        }
        c.is("the 13th", h.addMobile(0, 0, 0, 0), -2);
        for (int i = 0; i < 12; i++) {
            c.is("x", h.x(i), 100 + i);
        }
    }

    @Says(at = "Mobiles", value = "A mobile has a position, a velocity (two components from -99 to 99), and a state:")
    @Break({"", "MAX_SPEED = 99", "MAX_SPEED = 98"})
    @Break({"", "MAX_SPEED = 99", "MAX_SPEED = 100"})
    static void velocities(Check c) {
        CellHandover h = new CellHandover();
        h.addMobile(500, 500, -99, 99);
        h.addMobile(500, 500, 99, -99);
        h.run(1);
        c.is("x", h.x(0), 401);
        c.is("y", h.y(0), 599);
        c.is("x", h.x(1), 599);
        c.is("y", h.y(1), 401);
        c.illegal("100", () -> h.addMobile(500, 500, 100, 0));
        c.illegal("-100", () -> h.addMobile(500, 500, 0, -100));
    }

    @Says(at = "Mobiles", value = "0 idle, 1 talking, 2 waiting for set-up.")
    @Break({"", "TALKING = 1", "TALKING = 3"})
    @Break({"", "WAITING = 2", "WAITING = 3"})
    static void states(Check c) {
        CellHandover h = Nets.with(Nets.cell(60, 1, 1, 0, 0));
        Nets.callers(h, 3);
        c.is("talking", h.state(0), 1);
        c.is("waiting", h.state(1), 2);
        c.is("idle", h.state(2), 0);
    }

    @Says(at = "Mobiles", value = "A talking mobile has a serving cell and occupies one channel of it;")
    @Break({"int talkersIn", "talkers++", "talkers += 2"})
    @Break({"int talkersIn", "mobile.state == TALKING && mobile.serving == cell", "mobile.state == TALKING"})
    static void oneChannelEach(Check c) {
        CellHandover h = Nets.with(Nets.cell(60, 3, 0, 0, 0), "cell 999 0 60 10 1 0 0 0;");
        for (int i = 0; i < 3; i++) {
            c.is("busy", h.busyChannels(0), i);
            c.is("call", Nets.caller(h, 0, 0), 0);
            c.is("servingCell", h.servingCell(i), 0);
        }
        c.is("busy", h.busyChannels(0), 3);
        c.is("busy", h.busyChannels(1), 0);
        c.is("the other cell", Nets.caller(h, 999, 0), 1);
        c.is("no fourth channel", Nets.caller(h, 0, 0), -5);
    }

    @Says(at = "Mobiles", value = "a mobile that waits for set-up or for a handover occupies no channel of the cell at "
            + "which it waits.")
    @Break({"int talkersIn", "mobile.state == TALKING && mobile.serving == cell",
            "mobile.state == TALKING && mobile.serving == cell || mobile.requestCell == cell"})
    @Break({"int talkersIn", "mobile.state == TALKING && mobile.serving == cell",
            "mobile.serving == cell || mobile.state == WAITING && mobile.requestCell == cell"})
    static void waitingTakesNoChannel(Check c) {
        CellHandover h = pair(99, Nets.settings(1, 1, 5, 30, 0, 3));
        c.is("waits for set-up", Nets.caller(h, 0, 0), -3);
        c.is("busy", h.busyChannels(1), 1);
        h.run(1);
        c.is("waits for a handover", h.requestCell(1), 1);
        c.is("busy", h.busyChannels(1), 1);
        c.is("still in its cell", h.busyChannels(0), 1);
        h.hangUp(0);
        c.is("both wait", h.queueLength(1), 2);
        c.is("busy", h.busyChannels(1), 0);
        c.is("the channel is free", Nets.caller(h, 0, 0), 1);
    }

    @Says(at = "Mobiles", value = "A cell has a free channel if fewer mobiles talk there than it has channels.")
    @Break({"boolean hasFreeChannel", "talkersIn(cell) <", "talkersIn(cell) <="})
    @Break({"boolean hasFreeChannel", "talkersIn(cell) <", "talkersIn(cell) + 1 <"})
    static void freeChannels(Check c) {
        for (int channels = 1; channels <= 8; channels++) {
            CellHandover h = Nets.with(Nets.cell(60, channels, 0, 0, 0));
            Nets.callers(h, channels - 1);
            c.is("the last of " + channels, Nets.caller(h, 0, 0), 0);
            c.is("one too many", Nets.caller(h, 0, 0), -5);
            h.hangUp(0);
            c.is("free again", h.call(channels, 1), 0);
        }
    }

    @Says(at = "Mobiles", value = "A talking mobile has, for every cell, a list of reports: the levels that were "
            + "measured latest, at most as many as the window.")
    @Break({"void addReport", "count >= window", "count > window"})
    @Break({"void addReport", "count >= window", "count >= window - 1"})
    @Break({"void addReport", "dropOldest(first, count)", "dropOldest(first + 1, count - 1)"})
    static void latestReports(Check c) {
        for (int window = 1; window <= 8; window++) {
            CellHandover h = Nets.with(Nets.cell(60, 1, 0, 0, 0), Nets.settings(window, 1, 5, 4, 0, 3));
            h.addMobile(0, 0, 10, 0);
            h.call(0, 500);
            // The levels are 59, 58 and so on.
            for (int tick = 1; tick <= 10; tick++) {
                h.run(1);
                int count = Math.min(tick, window);
                c.is("reports", h.reportCount(0, 0), count);
                c.is("the latest ones", h.average(0, 0), (2 * (60 - tick) + count - 1) / 2);
            }
        }
    }

    @Says(at = "Mobiles", value = "The average of a cell is the sum of its reports divided by their number, rounded down.")
    @Break({"int averageOf", "sum / count", "(sum + count - 1) / count"})
    @Break({"int averageOf", "sum / count", "(sum + count / 2) / count"})
    static void averages(Check c) {
        CellHandover h = Nets.with(Nets.cell(60, 1, 0, 0, 0), Nets.settings(4, 1, 5, 4, 0, 3));
        h.addMobile(0, 0, 10, 0);
        h.call(0, 500);
        int[] speeds = {10, 10, 0, 10};
        // The levels are 59, 58, 58 and 57.
        int[] due = {59, 117 / 2, 175 / 3, 232 / 4};
        for (int i = 0; i < speeds.length; i++) {
            h.setVelocity(0, speeds[i], 0);
            h.run(1);
            c.is("average of " + (i + 1), h.average(0, 0), due[i]);
        }
        h.run(1);
        c.is("58, 58, 57, 56", h.average(0, 0), 57);
    }

    @Says(at = "Mobiles", value = "For every cell a mobile also has a tick up to which this cell is barred for it.")
    @Break({"boolean isBarredAt", "tick <= barredUntil[cell]", "tick <= barredUntil[0]"})
    @Break({"void bar(", "barredUntil[cell] = until", "Arrays.fill(barredUntil, until)"})
    @Break({"void bar(", "cell >= 0", "cell <= 0"})
    @Break({"boolean isBarredAt", "cell >= 0", "cell <= 0"})
    @Break({"void bar(", "cell < barredUntil.length", "cell < barredUntil.length - 1"})
    static void barsOfEach(Check c) {
        // There, back as soon as the bar of the one cell allows it, and there again when that of the other does.
        for (int one = 0; one < 8; one++) {
            int other = (one + 3) % 8;
            StringBuilder text = new StringBuilder();
            for (int i = 0; i < 8; i++) {
                text.append(Nets.clause("cell", i == one ? 0 : i == other ? 100 : 999, 0, 60, 10, 1, 0, 0, 0));
            }
            CellHandover g = Nets.with(text.toString(), Nets.relation(one, other, 0), Nets.relation(other, one, 0),
                    Nets.settings(1, 1, 2, 4, 5, 3));
            g.addMobile(40, 0, 20, 0);
            c.is("call", g.call(0, 500), one);
            c.is("handover at 0", g.run(1), 1);
            c.holds("barred up to 2", g.isBarred(0, one));
            g.setVelocity(0, -20, 0);
            c.is("barred at 1 and 2", g.run(2), 0);
            c.is("handover at 3", g.run(1), 1);
            for (int cell = 0; cell < 8; cell++) {
                c.is("barred up to 5", g.isBarred(0, cell) ? 1 : 0, cell == other ? 1 : 0);
            }
            g.setVelocity(0, 99, 0);
            c.is("barred at 4 and 5", g.run(2), 0);
            c.is("handover at 6", g.run(1), 1);
        }
        CellHandover h = pair(0, Nets.settings(4, 2, 50, 4, 5, 3));
        h.hangUp(0);
        c.is("handover", h.run(2), 1);
        h.call(0, 500);
        c.holds("the cell before", h.isBarred(1, 0));
        c.fails("the other cell", h.isBarred(1, 1));
        c.fails("the other mobile", h.isBarred(0, 0));
    }

    @Says(at = "Queues", value = "Each cell has a queue of requests.")
    @Break({"int requestsAt", "mobileAt(i).requestCell == cell", "mobileAt(i).requestCell != NONE"})
    @Break({"int queuedMobile", "mobileAt(i).requestCell == cell && ", "mobileAt(i).requestCell != NONE && "})
    static void queues(Check c) {
        CellHandover h = Nets.with("cell 0 0 60 10 1 2 0 0;cell 999 0 60 10 1 2 0 0;");
        int[] places = {0, 999, 999, 0, 999};
        for (int x : places) {
            Nets.caller(h, x, 0);
        }
        c.is("queue of 0", h.queueLength(0), 1);
        c.is("queue of 0", h.queued(0, 0), 3);
        c.is("queue of 1", h.queueLength(1), 2);
        c.is("queue of 1", h.queued(1, 0), 2);
        c.is("queue of 1", h.queued(1, 1), 4);
    }

    @Says(at = "Queues", value = "A request belongs to a mobile, is for a handover or for a set-up, and has the tick at "
            + "which it was made.")
    @Break({"int setUpCall", "caller.waitForSetUp(strongest, clock)", "caller.waitForSetUp(strongest, 0)"})
    @Break({"private void considerHandover", "makeRequest(cell, network.clock)", "makeRequest(cell, 0)"})
    @Break({"void makeRequest", "requestTick = tick", "requestTick = tick + 1"})
    static void tickOfRequest(Check c) {
        CellHandover h = Nets.with(Nets.cell(60, 1, 1, 0, 0), Nets.settings(1, 1, 5, 2, 0, 3));
        Nets.caller(h, 0, 0);
        h.run(5);
        Nets.caller(h, 0, 0);
        h.run(2);
        c.is("made at 5, up to 6", h.state(1), 2);
        h.run(1);
        c.is("made at 5, removed at 7", h.state(1), 0);
        CellHandover g = pair(99, Nets.settings(3, 3, 5, 2, 0, 3));
        Nets.tick(g, 3);
        c.is("made at 2", g.requestCell(1), 1);
        Nets.tick(g, 1);
        c.is("made at 2, up to 3", g.requestCell(1), 1);
        Nets.tick(g, 1);
        c.is("made at 2, removed at 4", g.requestCell(1), -1);
    }

    @Says(at = "Queues", value = "Requests for handovers come before requests for set-ups;")
    @Break({"private boolean comesBefore", "a.state == TALKING", "a.state == WAITING"})
    @Break({"private boolean comesBefore", "a.state != b.state", "false"})
    static void handoversFirst(Check c) {
        CellHandover h = Nets.with(Nets.cell(40, 1, 0, 0, 99), Nets.cell(50, 1, 6, 0, 0), "relation 1 0 0;relation 0 1 0;",
                Nets.settings(2, 2, 5, 30, 0, 3));
        Nets.caller(h, 0, 0);
        h.addMobile(0, 0, 0, 0);
        Nets.caller(h, 0, 0);
        // The request for a set-up has the smaller number and, since a handover needs two reports, the earlier tick.
        c.is("waits for set-up", h.call(1, 9), -3);
        h.run(2);
        c.is("waits for a handover", h.requestCell(2), 1);
        c.is("first", h.queued(1, 0), 2);
        c.is("second", h.queued(1, 1), 1);
        h.hangUp(0);
        c.is("served first", h.run(1), 1);
        c.is("the other waits", h.state(1), 2);
    }

    @Says(at = "Queues", value = "among requests of the same kind the earlier tick comes first, then the smaller number of "
            + "the mobile.")
    @Break({"private boolean comesBefore", "a.requestTick < b.requestTick", "a.requestTick > b.requestTick"})
    @Break({"private boolean comesBefore", "a.requestTick != b.requestTick", "false"})
    @Break({"private boolean comesBefore", "return first < second", "return first > second"})
    @Break({"int queuedMobile", "int i = 0; i < mobileCount", "int i = 1; i < mobileCount"})
    @Break({"private int requestsBefore", "int i = 0; i < mobileCount", "int i = 1; i < mobileCount"})
    @Break({"int queuedMobile", "i < mobileCount", "i < mobileCount - 1"})
    @Break({"private int requestsBefore", "i < mobileCount", "i < mobileCount - 1"})
    static void earlierFirst(Check c) {
        CellHandover h = Nets.with(Nets.cell(60, 1, 6, 0, 0), Nets.settings(1, 1, 5, 30, 0, 3));
        for (int i = 0; i < 12; i++) {
            h.addMobile(0, 0, 0, 0);
        }
        h.call(7, 500);
        int[][] order = {{11, 4, 5}, {3, 0}, {2}};
        for (int[] callers : order) {
            for (int mobile : callers) {
                c.is("waits", h.call(mobile, 9), -3);
            }
            h.run(1);
        }
        int[] due = {4, 5, 11, 0, 3, 2, -1};
        for (int i = 0; i < due.length; i++) {
            c.is("place " + i, h.queued(0, i), due[i]);
        }
        // Handovers: the mobiles 2 and 3 talk in cell 0 and want to leave it from the first tick on, mobile 1 later.
        CellHandover g = Nets.with(Nets.cell(40, 3, 0, 0, 99), Nets.cell(50, 1, 6, 0, 0), "relation 1 0 0;relation 0 1 0;",
                Nets.settings(1, 1, 5, 30, 0, 3));
        g.addMobile(0, 0, 0, 0);
        g.addMobile(0, 0, 0, 0);
        g.call(0, 500);
        Nets.callers(g, 2);
        g.run(1);
        c.is("by retry", g.call(1, 500), 0);
        g.run(1);
        c.is("the first tick, the smaller number", g.queued(1, 0), 2);
        c.is("the first tick", g.queued(1, 1), 3);
        c.is("the second tick", g.queued(1, 2), 1);
    }

    @Says(at = "Queues", value = "A mobile has at most one request at a time.")
    @Break({"private void decideHandovers", " && mobile.requestCell == NONE", ""})
    static void oneRequest(Check c) {
        CellHandover h = Nets.with(Nets.cell(40, 1, 0, 0, 99), Nets.cell(50, 1, 6, 0, 0), Nets.cell(48, 1, 6, 0, 0),
                "relation 1 0 0;relation 1 2 0;relation 0 1 0;relation 0 2 0;", Nets.settings(1, 1, 5, 30, 0, 3));
        Nets.callers(h, 3);
        c.is("servingCell", h.servingCell(2), 0);
        for (int tick = 0; tick < 3; tick++) {
            h.run(1);
            c.is("at the first candidate", h.requestCell(2), 1);
            c.is("one request", h.queueLength(1) + h.queueLength(2), 1);
            c.is("asked once", h.refusals(0, 1), 1);
        }
    }
}
