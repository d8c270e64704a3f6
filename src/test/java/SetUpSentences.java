/** The sentences of "Setting up a call". */
final class SetUpSentences {
    private static final String AT = "Setting up a call";

    private SetUpSentences() {
    }

    @Says(at = AT, value = "The strongest cell of a point is the cell with the greatest level there (the smallest number on "
            + "a tie).")
    @Break({"int loudestCell", "found > bestLevel", "found >= bestLevel"})
    @Break({"int loudestCell", "found > bestLevel", "best == NONE"})
    @Break({"int loudestCell", "int bestLevel = NONE", "int bestLevel = 0"})
    static void strongest(Check c) {
        CellHandover h = Nets.with("cell 0 0 60 10 1 0 0 0;cell 100 0 60 10 1 0 0 0;cell 100 0 60 10 1 0 0 0;");
        c.is("nearer to 0", h.strongestCell(49, 0), 0);
        c.is("a tie of all", h.strongestCell(50, 0), 0);
        c.is("nearer to 1 and 2, a tie", h.strongestCell(51, 0), 1);
        c.is("at the others", h.strongestCell(100, 0), 1);
        c.is("a tie of levels 0", h.strongestCell(999, 999), 0);
        c.is("so calls begin there", Nets.caller(h, 50, 0), 0);
    }

    @Says(at = AT, value = "A call of an idle mobile is set up as follows.")
    @Break({"public int call(", "caller.state != IDLE", "caller.state == TALKING"})
    @Break({"public int call(", "caller.state != IDLE", "caller.state == WAITING"})
    static void idleOnes(Check c) {
        CellHandover h = Nets.with(Nets.cell(60, 1, 1, 0, 0));
        Nets.callers(h, 2);
        c.is("one that talks", h.call(0, 9), -2);
        c.is("one that waits", h.call(1, 9), -2);
        c.is("still 500", h.remaining(0), 500);
        c.is("still 500", h.remaining(1), 500);
    }

    @Says(at = AT, value = "If there are no cells, or the level of the strongest cell at the position of the mobile is less "
            + "than its access level, there is no coverage, and nothing happens.")
    @Break({"int coveringCell", "best != NONE && canBeUsed(best, x, y) ? best : NONE", "best"})
    @Break({"private boolean canBeUsed", ">= used.accessLevel", "> used.accessLevel"})
    @Break({"private boolean canBeUsed", ">= used.accessLevel", ">= used.accessLevel - 1"})
    @Break({"public int call(", "if (strongest == NONE)", "if (strongest == NONE && now.cellCount > 0)"})
    @Break({"public int call(", "history.record(now);\n        return now.setUp", "return now.setUp"})
    static void noCoverage(Check c) {
        CellHandover empty = new CellHandover();
        empty.addMobile(0, 0, 0, 0);
        c.is("no cells", empty.call(0, 9), -4);
        c.is("nothing happens", empty.state(0), 0);
        c.is("nothing happens", empty.undoCount(), 1);
        // The other cell has a lower level, and would give access.
        CellHandover h = Nets.with("cell 0 0 60 10 1 6 50 0;cell 0 0 40 10 1 6 0 0;relation 0 1 0;");
        h.addMobile(100, 9, 0, 0);
        h.addMobile(100, 10, 0, 0);
        String before = Check.picture(h);
        c.is("level 49", h.call(1, 9), -4);
        c.holds("nothing happens", before.equals(Check.picture(h)));
        c.is("level 50", h.call(0, 9), 0);
        c.is("recorded", h.undoCount(), 3);
        c.is("level 49, and the cell is full", h.call(1, 9), -4);
    }

    @Says(at = AT, value = "If the strongest cell has a free channel, the mobile begins to talk there.")
    @Break({"int setUpCall", "hasFreeChannel(strongest) ? strongest : retryCell", "false ? strongest : retryCell"})
    @Break({"int setUpCall", "caller.beginToTalk(cell)", "caller.beginToTalk(0)"})
    static void atTheStrongest(Check c) {
        CellHandover h = Nets.with(Nets.cell(40, 8, 6, 0, 0), Nets.cell(50, 2, 6, 0, 0), "relation 1 0 0;");
        c.is("a channel", Nets.caller(h, 0, 0), 1);
        c.is("the last channel", Nets.caller(h, 0, 0), 1);
        c.is("talks", h.state(1), 1);
        c.is("talks there", h.servingCell(1), 1);
        c.is("no retry", h.total(5), 0);
        c.is("no channel", Nets.caller(h, 0, 0), 0);
        c.is("a retry", h.total(5), 1);
    }

    @Says(at = AT, value = "Otherwise, directed retry: of all neighbours of the strongest cell")
    @Break({"private int retryCell", "relationAt(strongest, cell).exists", "relationAt(cell, strongest).exists"})
    @Break({"private int retryCell", "relationAt(strongest, cell).exists && ", ""})
    static void retryAtNeighbours(Check c) {
        CellHandover h = Nets.with(Nets.cell(60, 1, 0, 0, 0), Nets.cell(55, 8, 6, 0, 0), Nets.cell(40, 1, 0, 0, 0),
                "relation 1 0 0;relation 2 1 0;relation 0 2 0;");
        c.is("the strongest", Nets.caller(h, 0, 0), 0);
        c.is("its neighbour", Nets.caller(h, 0, 0), 2);
        c.is("not the one that leads to it", Nets.caller(h, 0, 0), -5);
    }

    @Says(at = AT, value = "that have a free channel")
    @Break({"private int retryCell", "\n                        && hasFreeChannel(cell)", ""})
    static void retryNeedsChannel(Check c) {
        CellHandover h = Nets.with(Nets.cell(60, 1, 0, 0, 0), Nets.cell(55, 2, 6, 0, 0), Nets.cell(40, 1, 6, 0, 0),
                "relation 0 1 0;relation 0 2 0;");
        int[] due = {0, 1, 1, 2, -5};
        for (int i = 0; i < due.length; i++) {
            c.is("call " + i, Nets.caller(h, 0, 0), due[i]);
        }
    }

    @Says(at = AT, value = "and a level of at least their access level at this position,")
    @Break({"private int retryCell", "&& canBeUsed(cell, x, y)", ""})
    @Break({"private int retryCell", "canBeUsed(cell, x, y)", "cellAt(cell).levelAt(0, 0) >= cellAt(cell).accessLevel"})
    @Break({"private boolean canBeUsed", ">= used.accessLevel", "> used.accessLevel"})
    @Break({"private boolean canBeUsed", ">= used.accessLevel", ">= used.accessLevel - 1"})
    @Break({"private int retryCell", "int bestLevel = NONE", "int bestLevel = 0"})
    static void retryNeedsAccess(Check c) {
        String strongest = Nets.cell(60, 1, 0, 0, 0);
        // The mobiles stand where levels are 10 less than at the origin.
        c.is("level 40 for 40", retry(strongest, Nets.cell(50, 1, 0, 40, 0)), 1);
        c.is("level 40 for 41", retry(strongest, Nets.cell(50, 1, 0, 41, 0)), -5);
        c.is("level 40 for 41, 30 for 30", retry(strongest, Nets.cell(50, 1, 0, 41, 0), Nets.cell(40, 1, 0, 30, 0)), 2);
        c.is("level 0 for 0", retry(strongest, Nets.cell(5, 1, 0, 0, 0)), 1);
        c.is("level 0 for 1", retry(strongest, Nets.cell(5, 1, 0, 1, 0)), -5);
    }

    /** What the second call is answered, if the neighbours of cell 0, which the first one fills, are all the others. */
    private static int retry(String... cells) {
        StringBuilder text = new StringBuilder();
        for (String cell : cells) {
            text.append(cell);
        }
        for (int i = 1; i < cells.length; i++) {
            text.append(Nets.relation(0, i, 0));
        }
        CellHandover h = Check.loaded(text.toString());
        Nets.caller(h, 100, 0);
        return Nets.caller(h, 100, 0);
    }

    @Says(at = AT, value = "the one with the greatest level (the smallest number on a tie) is chosen, and the mobile begins "
            + "to talk there.")
    @Break({"private int retryCell", "found > bestLevel", "found >= bestLevel"})
    @Break({"private int retryCell", "found > bestLevel", "best == NONE"})
    static void greatestRetry(Check c) {
        CellHandover h = Nets.with(Nets.cell(60, 1, 0, 0, 0), Nets.cell(40, 1, 0, 0, 0), Nets.cell(41, 1, 0, 0, 0),
                Nets.cell(41, 1, 0, 0, 0), Nets.cell(39, 1, 0, 0, 0),
                "relation 0 4 0;relation 0 3 0;relation 0 2 0;relation 0 1 0;");
        int[] due = {0, 2, 3, 1, 4, -5};
        for (int i = 0; i < due.length; i++) {
            c.is("call " + i, Nets.caller(h, 0, 0), due[i]);
            c.is("state " + i, h.state(i), due[i] < 0 ? 0 : 1);
            c.is("servingCell " + i, h.servingCell(i), due[i] < 0 ? -1 : due[i]);
        }
    }

    @Says(at = AT, value = "If there is none, and the queue of the strongest cell has fewer requests than its capacity, the "
            + "mobile waits for set-up in this queue.")
    @Break({"boolean hasQueuePlace", "requestsAt(cell) <", "requestsAt(cell) <="})
    @Break({"boolean hasQueuePlace", "requestsAt(cell) <", "requestsAt(cell) + 1 <"})
    @Break({"int setUpCall", "caller.waitForSetUp(strongest, clock)", "caller.waitForSetUp(0, clock)"})
    @Break({"int setUpCall", "hasQueuePlace(strongest)", "hasQueuePlace(0)"})
    static void capacities(Check c) {
        for (int capacity = 0; capacity <= 6; capacity++) {
            CellHandover h = Nets.with(Nets.cell(40, 1, 6 - capacity, 0, 0), Nets.cell(60, 1, capacity, 0, 0),
                    "relation 1 0 0;");
            Nets.callers(h, 2);
            for (int i = 0; i < capacity; i++) {
                c.is("place " + i + " of " + capacity, Nets.caller(h, 0, 0), -3);
                c.is("state", h.state(2 + i), 2);
                c.is("requestCell", h.requestCell(2 + i), 1);
                c.is("queue", h.queueLength(1), i + 1);
            }
            c.is("no place", Nets.caller(h, 0, 0), -5);
            c.is("queue", h.queueLength(1), capacity);
            c.is("the other queue", h.queueLength(0), 0);
        }
    }

    @Says(at = AT, value = "Otherwise the call is blocked, and the mobile stays idle.")
    @Break({"int setUpCall", "count(BLOCKED_CALLS)", "caller.state = WAITING"})
    @Break({"int setUpCall", "count(BLOCKED_CALLS);", "count(BLOCKED_CALLS);caller.remaining = duration;"})
    static void blocked(Check c) {
        CellHandover h = Nets.with(Nets.cell(60, 1, 0, 0, 0));
        Nets.callers(h, 2);
        c.is("blocked", h.total(4), 1);
        c.is("idle", h.state(1), 0);
        c.is("idle", h.remaining(1), 0);
        c.is("idle", h.requestCell(1), -1);
        c.is("may call again", h.call(1, 9), -5);
        c.is("blocked", h.total(4), 2);
    }

    @Says(at = AT, value = "When a mobile begins to talk, all its reports and bars are cleared.")
    @Break({"void clearMeasurements", "Arrays.fill(reportCounts, 0);", ""})
    @Break({"void clearMeasurements", "Arrays.fill(barredUntil, NONE);", ""})
    @Break({"void clearMeasurements", "Arrays.fill(barredUntil, NONE);", "Arrays.fill(barredUntil, 0);"})
    static void clearedAtBeginning(Check c) {
        CellHandover h = Nets.with(Nets.cell(40, 1, 6, 0, 0), Nets.cell(50, 1, 6, 0, 0), "relation 1 0 0;relation 0 1 0;",
                Nets.settings(4, 1, 50, 4, 5, 3));
        Nets.callers(h, 2);
        for (int cell = 0; cell < 2; cell++) {
            c.fails("no bars at tick 0", h.isBarred(1, cell));
        }
        h.hangUp(0);
        c.is("handover", h.run(1), 1);
        c.holds("barred", h.isBarred(1, 0));
        c.is("reports", h.reportCount(1, 0) + h.reportCount(1, 1), 2);
        h.hangUp(1);
        c.is("call", h.call(1, 9), 1);
        for (int cell = 0; cell < 2; cell++) {
            c.is("no reports", h.reportCount(1, cell), 0);
            c.is("no average", h.average(1, cell), -1);
            c.fails("no bars", h.isBarred(1, cell));
        }
        h.hangUp(1);
        h.call(0, 1);
        Nets.caller(h, 0, 0);
        c.is("waits", h.call(1, 9), -3);
        h.run(1);
        c.is("talks from the queue on", h.servingCell(1), 1);
        for (int cell = 0; cell < 2; cell++) {
            c.is("no reports", h.reportCount(1, cell), 0);
            c.fails("no bars", h.isBarred(1, cell));
        }
    }
}
