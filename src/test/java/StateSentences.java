/** The sentences of "Operations", of promises 1 to 8 and of 39 to 42. */
final class StateSentences {
    private static final String OPERATIONS = "Operations";
    private static final String CELL = "cell 0 0 60 10 1 1 0 0;";
    /** Three calls begin in cells 1 (level 50), 2 (level 48) and 0 (level 40, an emergency); more wait at cell 1. */
    private static final String THREE = "cell 0 0 40 10 1 2 0 99;cell 0 0 50 10 1 2 0 0;cell 0 0 48 10 1 2 0 0;"
            + "relation 1 0 0;relation 1 2 0;relation 0 1 5;relation 0 2 0;settings 2 1 5 3 45 4;";

    private StateSentences() {
    }

    @Says(at = OPERATIONS, value = {"addMobile, setVelocity, call, hangUp, setHysteresis and run are operations.",
        "Every successful call of an operation is recorded;"})
    @Break({"public int addMobile", "history.record(now);", ""})
    @Break({"public int setVelocity", "history.record(now);", ""})
    @Break({"public int call(", "history.record(now);", ""})
    @Break({"public int hangUp", "history.record(now);", ""})
    @Break({"public int setHysteresis", "history.record(now);", ""})
    @Break({"public int run(", "history.record(now);", ""})
    @Break({"public int run(", "history.record(now);", "if (ticks > 0) { history.record(now); }"})
    @Break({"public int forecastCell", "trial.copyFrom(now);", "history.record(now); trial.copyFrom(now);"})
    @Break({"public void saveSnapshot", "hasSnapshot = true;", "hasSnapshot = true; history.record(now);"})
    static void operations(Check c) {
        CellHandover h = Nets.with(CELL, CELL, "relation 0 1 3;");
        c.is("load", h.undoCount(), 0);
        h.addMobile(0, 0, 0, 0);
        c.is("addMobile", h.undoCount(), 1);
        h.setVelocity(0, 0, 0);
        c.is("setVelocity", h.undoCount(), 2);
        h.call(0, 9);
        c.is("call", h.undoCount(), 3);
        h.hangUp(0);
        c.is("hangUp", h.undoCount(), 4);
        h.setHysteresis(0, 1, 3);
        c.is("setHysteresis", h.undoCount(), 5);
        h.run(1);
        c.is("run", h.undoCount(), 6);
        h.run(0);
        c.is("run of no ticks", h.undoCount(), 7);
        h.saveSnapshot();
        h.forecastCell(0, 9);
        h.bestHysteresis(0, 1, 9);
        h.coverage(0);
        h.missingRelation(9);
        h.candidate(0, 0);
        Check.ask(h, "many 1=1");
        Check.load(h, "x");
        c.is("no operations", h.undoCount(), 7);
        c.is("the last one", h.undo(), 6);
        c.is("run of no ticks", h.clock(), 1);
    }

    @Says(at = OPERATIONS, value = "call counts as successful unless it returns -2 or -4.")
    @Break({"public int call(", "return UNCOVERED", "history.record(now); return UNCOVERED"})
    @Break({"public int call(", "return REFUSED", "history.record(now); return REFUSED"})
    @Break({"public int call(", "history.record(now);\n        return now.setUpCall(caller, duration, strongest);",
            "history.record(now); int answer = now.setUpCall(caller, duration, strongest); if (answer == BLOCKED) "
            + "{ history.takeBack(trial); } return answer;"})
    @Break({"public int call(", "history.record(now);\n        return now.setUpCall(caller, duration, strongest);",
            "history.record(now); int answer = now.setUpCall(caller, duration, strongest); if (answer == WAITS) "
            + "{ history.takeBack(trial); } return answer;"})
    static void successfulCalls(Check c) {
        CellHandover h = Nets.with("cell 0 0 60 10 1 1 20 0;");
        for (int i = 0; i < 3; i++) {
            h.addMobile(0, 0, 0, 0);
        }
        h.addMobile(999, 999, 0, 0);
        c.is("talks", h.call(0, 9), 0);
        c.is("recorded", h.undoCount(), 5);
        c.is("not idle", h.call(0, 9), -2);
        c.is("not recorded", h.undoCount(), 5);
        c.is("waits", h.call(1, 9), -3);
        c.is("recorded", h.undoCount(), 6);
        c.is("not idle", h.call(1, 9), -2);
        c.is("not recorded", h.undoCount(), 6);
        c.is("no coverage", h.call(3, 9), -4);
        c.is("not recorded", h.undoCount(), 6);
        c.is("blocked", h.call(2, 9), -5);
        c.is("recorded", h.undoCount(), 7);
        h.undo();
        c.is("the count comes back", h.total(4), 0);
        c.is("and nothing else", h.state(1), 2);
        h.undo();
        c.is("the waiting comes back", h.state(1), 0);
    }

    @Says(at = OPERATIONS, value = "Undoing restores the whole state before the operation, with mobiles, queues, hystereses, "
            + "clock and counts.")
    @Break({"void copyFrom(Mobile other)", "badTicks = other.badTicks;", ""})
    @Break({"void copyFrom(Mobile other)", "requestTick = other.requestTick;", ""})
    @Break({"void copyFrom(Mobile other)", "requestCell = other.requestCell;", ""})
    @Break({"void copyFrom(Mobile other)", "remaining = other.remaining;", ""})
    @Break({"void copyFrom(Mobile other)", "vx = other.vx;", ""})
    @Break({"void copyFrom(Mobile other)", "vy = other.vy;", ""})
    @Break({"void copyFrom(Mobile other)", "copyInts(other.levels, levels);", ""})
    @Break({"void copyFrom(Mobile other)", "copyInts(other.barredUntil, barredUntil);", ""})
    @Break({"void copyFrom(Relation other)", "hysteresis = other.hysteresis;", ""})
    @Break({"void copyFrom(Relation other)", "successes = other.successes;", ""})
    @Break({"void copyFrom(Relation other)", "refusals = other.refusals;", ""})
    @Break({"void copyFrom(Cell other)", "congestedTicks = other.congestedTicks;", ""})
    @Break({"void copyFrom(Network other)", "clock = other.clock;", ""})
    @Break({"void copyFrom(Network other)", "copyInts(other.totals, totals);", ""})
    @Break({"void copyFrom(Network other)", "mobileCount = other.mobileCount;", ""})
    static void wholeStates(Check c) {
        CellHandover h = Nets.with(THREE);
        // Each operation is done, undone and done again; then all are undone, in two portions.
        String[] before = new String[24];
        for (int step = 0; step < before.length; step++) {
            before[step] = Check.scene(h);
            operate(h, step);
            String after = Check.scene(h);
            h.undo();
            c.holds("undone " + step, before[step].equals(Check.scene(h)));
            operate(h, step);
            c.holds("done again " + step, after.equals(Check.scene(h)));
        }
        c.holds("handovers", h.total(0) > 0);
        c.holds("drops", h.total(3) > 0);
        c.holds("timeouts", h.total(7) > 0);
        c.holds("served", h.total(6) > 0);
        String last = Check.scene(h);
        for (int step = before.length - 1; step >= 12; step--) {
            h.undo();
            c.holds("undone from behind " + step, before[step].equals(Check.scene(h)));
        }
        for (int step = 12; step < before.length; step++) {
            c.holds("before doing it again " + step, before[step].equals(Check.scene(h)));
            operate(h, step);
        }
        c.holds("the last one", last.equals(Check.scene(h)));
        // The tick of a request shows only in the order of the queue.
        CellHandover g = Nets.with("cell 0 0 60 10 1 2 0 0;");
        Nets.caller(g, 0, 0);
        g.addMobile(0, 0, 0, 0);
        g.addMobile(0, 0, 0, 0);
        g.call(2, 9);
        g.run(1);
        g.call(1, 9);
        g.hangUp(2);
        g.call(2, 9);
        c.is("the later one is the second", g.queued(0, 0), 1);
        g.undo();
        g.undo();
        c.is("the earlier one is the first", g.queued(0, 0), 2);
    }

    private static void operate(CellHandover h, int step) {
        if (step < 6) {
            h.addMobile(0, 0, step == 5 ? 9 : 0, step == 4 ? 7 : 0);
        } else if (step < 11) {
            h.call(step - 6, step == 6 ? 3 : 40);
        } else if (step == 13) {
            h.hangUp(1);
        } else if (step == 17) {
            h.setVelocity(5, 60, 1);
        } else if (step == 18) {
            h.setHysteresis(0, 2, 9);
        } else if (step == 20) {
            h.call(5, 9);
        } else {
            h.run(step == 23 ? 2 : 1);
        }
    }

    @Says(at = OPERATIONS, value = "The 12 most recent ones can be undone, the most recent one first.")
    @Break({"", "MAX_UNDO = 12", "MAX_UNDO = 11"})
    @Break({"", "MAX_UNDO = 12", "MAX_UNDO = 13"})
    @Break({"void takeBack", "next > 0 ? next - 1 : MAX_UNDO - 1", "next > 0 ? next - 1 : 0"})
    @Break({"void record(Network state)", "next + 1 < MAX_UNDO ? next + 1 : 0", "Math.min(next + 1, MAX_UNDO - 1)"})
    static void twelve(Check c) {
        for (int count = 0; count <= 40; count++) {
            CellHandover h = new CellHandover();
            for (int i = 0; i < count; i++) {
                h.run(i + 1);
            }
            int kept = Math.min(12, count);
            c.is("undoCount", h.undoCount(), kept);
            for (int left = kept - 1; left >= 0; left--) {
                c.is("undo", h.undo(), left);
                int done = count - kept + left;
                c.is("clock", h.clock(), done * (done + 1) / 2);
            }
            c.is("nothing to undo", h.undo(), -1);
        }
    }

    @Says(at = "Promise 1", value = "Creates a network without cells and mobiles; the clock is 0.")
    @Break({"private static final class Network", "int mobileCount;", "int mobileCount = 1;"})
    @Break({"private static final class Network", "int cellCount;", "int cellCount = 1;"})
    @Break({"private static final class Network", "int clock;", "int clock = 1;"})
    static void newObject(Check c) {
        CellHandover h = new CellHandover();
        c.is("cells", h.cellCount(), 0);
        c.is("relations", h.relationCount(), 0);
        c.is("mobiles", h.mobileCount(), 0);
        c.is("clock", h.clock(), 0);
        c.is("nothing to undo", h.undoCount(), 0);
        c.fails("no snapshot", h.restoreSnapshot());
        c.illegal("an empty buffer", () -> h.load(1));
        c.is("no error", h.errorPosition(), -1);
        for (int what = 0; what < 8; what++) {
            c.is("total " + what, h.total(what), 0);
        }
        c.noSuch("no cell", () -> h.busyChannels(0));
        c.noSuch("no mobile", () -> h.x(0));
        c.is("strongestCell", h.strongestCell(0, 0), -1);
        c.is("missingRelation", h.missingRelation(0), -1);
        c.is("runs all the same", h.run(60), 0);
        c.is("clock", h.clock(), 60);
    }

    @Says(at = "Promise 2", value = "Appends 20 bytes to the buffer: the four bytes of each parameter, the most significant "
            + "byte first.")
    @Break({"void append(int word)", "shift = 24; shift >= 0; shift -= 8", "shift = 0; shift <= 24; shift += 8"})
    @Break({"public int feed(", "text.append(a);\n        text.append(b);", "text.append(b);\n        text.append(a);"})
    @Break({"void append(int word)", "(word >>> shift) & 255", "(word >> shift) & 127"})
    @Break({"void append(int word)", "(word >>> shift) & 255", "word >> shift"})
    static void bytes(Check c) {
        CellHandover h = new CellHandover();
        // "cell 17 2 60 1 1 0 0" and " 0;" with spaces
        c.is("feed", h.feed(0x63656c6c, 0x20313720, 0x32203630, 0x20312031, 0x20302030), 20);
        c.is("feed", h.feed(0x20303b20, 0x20202020, 0x20202020, 0x20202020, 0x20202020), 40);
        c.is("load", h.load(40), 1);
        c.is("its place", h.level(0, 17, 2), 60);
        c.is("its place", h.strongestCell(17, 2), 0);
        for (int place = 0; place < 20; place++) {
            int[] signs = {0, 127, 128, 138, 160, 255};
            for (int sign : signs) {
                int[] words = {0x20202020, 0x20202020, 0x20202020, 0x20202020, 0x20202020};
                words[place / 4] = words[place / 4] & ~(255 << 24 - 8 * (place % 4)) | sign << 24 - 8 * (place % 4);
                c.is("feed", h.feed(words[0], words[1], words[2], words[3], words[4]), 20);
                c.is("load", h.load(20), -11);
                c.is("the place of a byte", h.errorPosition(), place);
            }
        }
    }

    @Says(at = "Promise 2", value = {"Returns the number of bytes in the buffer;",
        "NONE if it would exceed 700, and then nothing is appended."})
    @Break({"", "MAX_BYTES = 700", "MAX_BYTES = 680"})
    @Break({"", "MAX_BYTES = 700", "MAX_BYTES = 720"})
    @Break({"public int feed(", "text.fed > MAX_BYTES - FED_BYTES", "text.fed >= MAX_BYTES - FED_BYTES"})
    @Break({"public int feed(", "return NONE", "text.fed = 0; return NONE"})
    @Break({"public int feed(", "return NONE;", "text.fed = MAX_BYTES - FED_BYTES; text.append(a); text.fed = MAX_BYTES; "
            + "return NONE;"})
    static void fullBuffer(Check c) {
        CellHandover h = new CellHandover();
        for (int i = 1; i <= 35; i++) {
            c.is("feed", h.feed(0x20202020, 0x20202020, 0x20202020, 0x20202020, 0x20202020), 20 * i);
        }
        c.is("720", h.feed(0x41414141, 0x41414141, 0x41414141, 0x41414141, 0x41414141), -1);
        c.is("still 720", h.feed(0x41414141, 0x41414141, 0x41414141, 0x41414141, 0x41414141), -1);
        c.illegal("nothing is appended", () -> h.load(701));
        c.is("700 spaces", h.load(700), 0);
        c.is("no error", h.errorPosition(), -1);
        c.is("an empty buffer", h.feed(0, 0, 0, 0, 0), 20);
    }

    @Says(at = "Promise 3", value = {"Reads the first bytes of the buffer as a network, which replaces the present one.",
        "- `length`: number of bytes to read"})
    @Break({"void open(int length)", "end = length;", "end = fed;"})
    @Break({"public int load(", "now.copyFrom(trial);", "now.cellCount = trial.cellCount;"})
    @Break({"void clear() {\n            cellCount", "setDefaults();", ""})
    @Break({"void clear() {\n            cellCount", "relationAt(from, to).clear();", ""})
    static void replaced(Check c) {
        CellHandover h = Nets.with(THREE);
        Check.feed(h, CELL + CELL);
        c.is("the first bytes", h.load(CELL.length()), 1);
        c.is("cells", h.cellCount(), 1);
        c.is("relations", h.relationCount(), 0);
        c.is("level", h.level(0, 0, 0), 60);
        c.noSuch("no second cell", () -> h.level(1, 0, 0));
        c.is("two cells", Check.load(h, CELL + CELL), 2);
        c.is("no relation", h.hysteresis(0, 1), -1);
        c.is("no relation", h.hysteresis(1, 0), -1);
        Nets.caller(h, 0, 0);
        h.run(9);
        c.is("the window is 4 again", h.reportCount(0, 0), 4);
        c.is("no neighbours", h.reportCount(0, 1), 0);
        Check.feed(h, CELL);
        c.is("no bytes", h.load(0), 0);
        c.is("no cells", h.cellCount(), 0);
    }

    @Says(at = "Promise 3", value = "There are no mobiles, the clock is 0, all counts are 0, and the undo history is cleared.")
    @Break({"void clear() {\n            cellCount", "mobileCount = 0;", ""})
    @Break({"void clear() {\n            cellCount", "clock = 0;", ""})
    @Break({"void clear() {\n            cellCount", "Arrays.fill(totals, 0);", ""})
    @Break({"void readCell()", "cell.congestedTicks = 0;", ""})
    @Break({"void clear() {\n            exists", "successes = 0;", ""})
    @Break({"void clear() {\n            exists", "refusals = 0;", ""})
    @Break({"public int load(", "history.forget();", ""})
    static void cleared(Check c) {
        CellHandover h = Nets.with(THREE);
        Nets.callers(h, 4);
        h.run(1);
        h.hangUp(0);
        h.run(1);
        c.holds("success", h.successes(0, 1) > 0);
        c.holds("refusals", h.refusals(0, 1) > 0);
        c.holds("congestion", h.congestedTicks(1) > 0);
        c.holds("an undo", h.undoCount() > 0);
        h.forecastCell(0, 0);
        c.is("load", Check.load(h, THREE), 3);
        c.is("mobiles", h.mobileCount(), 0);
        c.is("clock", h.clock(), 0);
        for (int what = 0; what < 8; what++) {
            c.is("total " + what, h.total(what), 0);
        }
        for (int from = 0; from < 3; from++) {
            c.is("congestedTicks", h.congestedTicks(from), 0);
            c.is("busyChannels", h.busyChannels(from), 0);
            c.is("queueLength", h.queueLength(from), 0);
            for (int to = 0; to < 3; to++) {
                c.is("successes", h.successes(from, to), 0);
                c.is("refusals", h.refusals(from, to), 0);
            }
        }
        c.is("undoCount", h.undoCount(), 0);
        c.is("undo", h.undo(), -1);
    }

    @Says(at = "Promise 3", value = "A snapshot is kept.")
    @Break({"public int load(", "history.forget();", "history.forget(); hasSnapshot = false;"})
    @Break({"public int load(", "history.forget();", "history.forget(); snapshot.copyFrom(now);"})
    static void keptSnapshot(Check c) {
        CellHandover h = Nets.with(THREE);
        Nets.callers(h, 4);
        h.run(2);
        h.saveSnapshot();
        String saved = Check.scene(h);
        c.is("load", Check.load(h, CELL), 1);
        c.is("load", Check.load(h, "x"), -11);
        h.addMobile(1, 1, 1, 1);
        c.holds("restore", h.restoreSnapshot());
        c.holds("the snapshot", saved.equals(Check.scene(h)));
    }

    @Says(at = "Promise 3", value = "The buffer is empty afterwards, also after an error.")
    @Break({"void close()", "fed = 0;", "fed = error == 0 ? 0 : fed;"})
    @Break({"void close()", "fed = 0;", "fed = error != 0 ? 0 : fed;"})
    @Break({"void close()", "fed = 0;", "fed = fed - end;"})
    static void emptyBuffer(Check c) {
        CellHandover h = new CellHandover();
        Check.feed(h, CELL + CELL);
        c.is("a good text", h.load(CELL.length()), 1);
        c.illegal("nothing is left", () -> h.load(1));
        c.is("feed", h.feed(0, 0, 0, 0, 0), 20);
        c.is("a bad text", h.load(19), -11);
        c.illegal("nothing is left", () -> h.load(1));
        c.is("feed", h.feed(0, 0, 0, 0, 0), 20);
        c.is("no bytes", h.load(0), 0);
        c.illegal("nothing is left", () -> h.load(1));
    }

    @Says(at = "Promise 3", value = {"Returns the number of cells;", "-10 minus the error code if the text has an error "
        + "(then only the buffer and the error position change)."})
    @Break({"public int load(", "-10 - text.error", "-10 + text.error"})
    @Break({"public int load(", "if (text.error != 0) {", "now.copyFrom(trial); if (text.error != 0) {"})
    @Break({"public int load(", "if (text.error != 0) {", "history.forget(); if (text.error != 0) {"})
    @Break({"public int load(", "if (text.error != 0) {", "hasSnapshot = false; if (text.error != 0) {"})
    static void answers(Check c) {
        CellHandover h = Nets.with(THREE);
        Nets.callers(h, 4);
        h.run(2);
        h.saveSnapshot();
        Check.ask(h, "x");
        String before = Check.picture(h);
        String[] texts = {CELL + "x", CELL + "cell 1000", CELL + CELL + "relation 0 1 0;relation 0 1"};
        int[] due = {-11, -12, -14};
        int length = CELL.length();
        int[] places = {length, length + 5, 2 * length + 26};
        for (int i = 0; i < texts.length; i++) {
            c.is("load", Check.load(h, texts[i]), due[i]);
            c.is("the error position", h.errorPosition(), places[i]);
            Check.ask(h, "x");
            c.holds("nothing else changes", before.equals(Check.picture(h)));
        }
        c.holds("the snapshot is there", h.restoreSnapshot());
        StringBuilder eight = new StringBuilder();
        for (int cells = 0; cells <= 8; cells++) {
            c.is("cells", Check.load(h, eight.toString()), cells);
            eight.append("cell 0 0 60 10 1 1 0 0;");
        }
        c.is("nine cells", Check.load(h, eight.toString()), -13);
        c.is("eight cells", h.cellCount(), 8);
    }

    @Says(at = "Promise 3", value = "Throws `IllegalArgumentException` if length is negative or greater than the number of "
            + "bytes in the buffer (nothing changes)")
    @Break({"public int load(", "requireRange(length, 0, text.fed)", "requireRange(length, -1, text.fed)"})
    @Break({"public int load(", "requireRange(length, 0, text.fed)", "requireRange(length, 0, text.fed + 1)"})
    @Break({"public int load(", "requireRange(length, 0, text.fed)", "requireRange(length, 0, text.fed - 1)"})
    @Break({"public int load(", "requireRange(length, 0, text.fed)", "requireRange(length, 1, text.fed)"})
    @Break({"public int load(", "requireRange(", "if (length > text.fed) { text.fed = 0; } requireRange("})
    @Break({"public int load(", "requireRange(", "history.forget(); requireRange("})
    @Break({"public int load(", "requireRange(", "text.errorAt = NONE; requireRange("})
    static void wrongLengths(Check c) {
        CellHandover h = Nets.with(THREE);
        Nets.callers(h, 4);
        Check.ask(h, "x");
        String before = Check.picture(h);
        c.illegal("1 of nothing", () -> h.load(1));
        Check.feed(h, CELL);
        c.illegal("-1", () -> h.load(-1));
        c.illegal("the least int", () -> h.load(Integer.MIN_VALUE));
        c.illegal("41 of 40", () -> h.load(41));
        c.illegal("701 of 40", () -> h.load(701));
        c.illegal("the greatest int", () -> h.load(Integer.MAX_VALUE));
        c.holds("nothing changes", before.equals(Check.picture(h)));
        c.is("the buffer is kept", h.feed(0x20202020, 0x20202020, 0x20202020, 0x20202020, 0x20202020), 60);
        c.is("60 of 60", h.load(60), 1);
        c.is("0 of 0", h.load(0), 0);
    }

    @Says(at = "Promise 4", value = "Returns the position of the first byte of the token with the error, for the most recent "
            + "call of load or query that read the buffer;")
    @Break({"void close()", "error != 0 ? start : NONE", "error != 0 ? next : NONE"})
    @Break({"void close()", "error != 0 ? start : NONE", "error != 0 && errorAt == NONE ? start : errorAt"})
    static void errorPositions(Check c) {
        CellHandover h = new CellHandover();
        c.is("load", Check.load(h, "cell 0 10000 "), -12);
        c.is("its first byte", h.errorPosition(), 7);
        c.is("query", Check.ask(h, "many  foo=1"), -1000000001);
        c.is("its first byte", h.errorPosition(), 6);
        c.is("load", Check.load(h, "  x"), -11);
        c.is("its first byte", h.errorPosition(), 2);
        h.addMobile(0, 0, 0, 0);
        h.saveSnapshot();
        h.undo();
        h.restoreSnapshot();
        h.run(1);
        h.forecastCell(0, 1);
        h.feed(0, 0, 0, 0, 0);
        c.illegal("load", () -> h.load(21));
        c.illegal("query", () -> h.query(-1));
        c.is("no call since then read the buffer", h.errorPosition(), 2);
        c.is("load of nothing", h.load(0), 0);
        c.is("this one did", h.errorPosition(), -1);
    }

    @Says(at = "Promise 4", value = "NONE if that text had no error, or if there was no such call.")
    @Break({"private static final class Text", "int errorAt = NONE", "int errorAt"})
    @Break({"void close()", "error != 0 ? start : NONE", "error != 0 ? start : errorAt"})
    static void noError(Check c) {
        CellHandover h = new CellHandover();
        c.is("no such call", h.errorPosition(), -1);
        c.illegal("load", () -> h.load(1));
        c.illegal("query", () -> h.query(1));
        c.is("no such call", h.errorPosition(), -1);
        Check.load(h, "x");
        c.is("an error", h.errorPosition(), 0);
        Check.load(h, CELL);
        c.is("no error", h.errorPosition(), -1);
        Check.ask(h, "x");
        c.is("an error", h.errorPosition(), 0);
        Check.ask(h, "many 1=1");
        c.is("no error", h.errorPosition(), -1);
    }

    @Says(at = "Promise 5", value = "Returns the number of cells.")
    @Break({"void readCell()", "network.cellCount++;", "network.cellCount = Math.min(7, network.cellCount + 1);"})
    static void cellCounts(Check c) {
        StringBuilder text = new StringBuilder();
        for (int cells = 0; cells <= 8; cells++) {
            CellHandover h = new CellHandover();
            Check.load(h, text.toString());
            c.is("cells", h.cellCount(), cells);
            text.append(CELL);
        }
    }

    @Says(at = "Promise 6", value = "Returns the number of relations.")
    @Break({"void readRelation()", "network.relationCount++;", ""})
    @Break({"void readRelation()", "network.relationCount++;", "network.relationCount = Math.min(23, "
            + "network.relationCount + 1);"})
    static void relationCounts(Check c) {
        StringBuilder text = new StringBuilder();
        for (int i = 0; i < 8; i++) {
            text.append("cell 0 0 9 9 1 1 0 0;");
        }
        for (int relations = 0; relations <= 24; relations++) {
            CellHandover h = Nets.with(text.toString());
            c.is("relations", h.relationCount(), relations);
            text.append(Nets.relation(7 - relations / 7, relations % 7 == 7 - relations / 7 ? 7 : relations % 7, 3));
        }
    }

    @Says(at = "Promise 7", value = "Returns the number of mobiles.")
    @Break({"public int addMobile", "now.mobileCount = number + 1", "now.mobileCount = Math.min(11, number + 1)"})
    static void mobileCounts(Check c) {
        CellHandover h = new CellHandover();
        for (int mobiles = 0; mobiles <= 12; mobiles++) {
            c.is("mobiles", h.mobileCount(), mobiles);
            h.addMobile(0, 0, 0, 0);
        }
        c.is("twelve", h.mobileCount(), 12);
        h.undo();
        c.is("after undo", h.mobileCount(), 11);
    }

    @Says(at = "Promise 8", value = "Returns the clock.")
    @Break({"public int clock()", "return now.clock", "return Math.min(now.clock, 120)"})
    static void clocks(Check c) {
        CellHandover h = new CellHandover();
        int due = 0;
        for (int ticks = 0; ticks <= 60; ticks++) {
            h.run(ticks);
            due += ticks;
            c.is("clock", h.clock(), due);
        }
        h.undo();
        c.is("after undo", h.clock(), due - 60);
    }

    @Says(at = "Promise 39", value = "Returns the number of operations that can be undone.")
    @Break({"void record(Network state)", "Math.min(count + 1, MAX_UNDO)", "count + 1"})
    @Break({"void forget()", "count = 0", "count = Math.min(count, 1)"})
    static void undoCounts(Check c) {
        CellHandover h = new CellHandover();
        for (int i = 0; i < 30; i++) {
            c.is("undoCount", h.undoCount(), Math.min(i, 12));
            h.run(1);
        }
        for (int left = 11; left >= 0; left--) {
            h.undo();
            c.is("undoCount", h.undoCount(), left);
        }
        h.undo();
        c.is("undoCount", h.undoCount(), 0);
        h.run(1);
        c.is("undoCount", h.undoCount(), 1);
        h.saveSnapshot();
        c.is("saving keeps it", h.undoCount(), 1);
        h.run(1);
        h.restoreSnapshot();
        c.is("restoring clears it", h.undoCount(), 0);
        h.run(1);
        h.run(1);
        h.load(0);
        c.is("loading clears it", h.undoCount(), 0);
    }

    @Says(at = "Promise 40", value = {"Undoes the most recent operation.",
        "Returns the number of operations that can still be undone;"})
    @Break({"public int undo()", "return history.count", "return history.count + 1"})
    @Break({"void takeBack", "next = last;", ""})
    static void undoing(Check c) {
        CellHandover h = new CellHandover();
        for (int i = 0; i < 5; i++) {
            h.addMobile(i, 0, 0, 0);
        }
        for (int left = 4; left >= 1; left--) {
            c.is("undo", h.undo(), left);
            c.is("mobiles", h.mobileCount(), left);
        }
        h.run(7);
        h.addMobile(9, 0, 0, 0);
        c.is("undo", h.undo(), 2);
        c.is("mobiles", h.mobileCount(), 1);
        c.is("clock", h.clock(), 7);
        c.is("undo", h.undo(), 1);
        c.is("clock", h.clock(), 0);
        c.is("undo", h.undo(), 0);
        c.is("mobiles", h.mobileCount(), 0);
    }

    @Says(at = "Promise 40", value = "NONE if there was nothing to undo.")
    @Break({"public int undo()", "history.count <= 0", "history.count < 0"})
    @Break({"public int undo()", "history.count <= 0", "history.count <= 1"})
    static void nothingToUndo(Check c) {
        CellHandover h = Nets.with(CELL);
        String before = Check.picture(h);
        c.is("undo", h.undo(), -1);
        c.is("undo", h.undo(), -1);
        c.holds("nothing changes", before.equals(Check.picture(h)));
        h.run(1);
        c.is("undo", h.undo(), 0);
        c.is("undo", h.undo(), -1);
        c.holds("nothing changes", before.equals(Check.picture(h)));
        for (int i = 0; i < 13; i++) {
            h.run(1);
        }
        for (int i = 0; i < 12; i++) {
            h.undo();
        }
        c.is("the 13th undo", h.undo(), -1);
        c.is("clock", h.clock(), 1);
    }

    @Says(at = "Promise 41", value = {"Saves a snapshot of the network with its mobiles, clock and counts.",
        "It replaces an earlier snapshot."})
    @Break({"public void saveSnapshot", "snapshot.copyFrom(now);", "if (!hasSnapshot) { snapshot.copyFrom(now); }"})
    @Break({"public void saveSnapshot", "hasSnapshot = true;", "hasSnapshot = now.cellCount > 0;"})
    static void snapshots(Check c) {
        CellHandover empty = new CellHandover();
        empty.saveSnapshot();
        empty.addMobile(0, 0, 0, 0);
        c.holds("an empty network", empty.restoreSnapshot());
        c.is("mobiles", empty.mobileCount(), 0);
        CellHandover h = Nets.with(THREE);
        for (int round = 0; round < 3; round++) {
            Nets.callers(h, 3);
            h.run(2);
            int undoCount = h.undoCount();
            h.saveSnapshot();
            c.is("undoCount", h.undoCount(), undoCount);
            String saved = Check.scene(h);
            h.run(5);
            h.hangUp(0);
            h.setHysteresis(0, 1, 10 + round);
            String later = Check.scene(h);
            c.fails("something changes", saved.equals(later));
            c.holds("restore", h.restoreSnapshot());
            c.holds("the latest snapshot", saved.equals(Check.scene(h)));
            h.run(5);
            h.hangUp(0);
            h.setHysteresis(0, 1, 10 + round);
            c.holds("it goes on in the same way", later.equals(Check.scene(h)));
            h.undo();
            h.undo();
            h.undo();
            h.call(0, 9);
        }
    }

    @Says(at = "Promise 42", value = {"Restores the snapshot and clears the undo history.", "The snapshot is kept."})
    @Break({"public boolean restoreSnapshot", "history.forget();", ""})
    @Break({"public boolean restoreSnapshot", "history.forget();", "history.forget(); hasSnapshot = false;"})
    @Break({"public boolean restoreSnapshot", "now.copyFrom(snapshot);", ""})
    static void restoring(Check c) {
        CellHandover h = Nets.with(THREE);
        Nets.callers(h, 4);
        h.run(1);
        h.saveSnapshot();
        String saved = Check.scene(h);
        for (int i = 1; i < 4; i++) {
            h.run(i);
            h.hangUp(i);
            c.holds("an undo", h.undoCount() > 0);
            c.holds("restore", h.restoreSnapshot());
            c.holds("the same again", saved.equals(Check.scene(h)));
            c.is("undoCount", h.undoCount(), 0);
            c.is("undo", h.undo(), -1);
            c.holds("still the same", saved.equals(Check.scene(h)));
        }
    }

    @Says(at = "Promise 42", value = "Returns true; false if there is no snapshot (nothing changes).")
    @Break({"public boolean restoreSnapshot", "if (!hasSnapshot) {", "if (!hasSnapshot) { history.forget();"})
    @Break({"public boolean restoreSnapshot", "if (!hasSnapshot) {", "if (false) {"})
    @Break({"public boolean restoreSnapshot", "return true", "return now.cellCount > 0"})
    static void noSnapshot(Check c) {
        CellHandover h = Nets.with(THREE);
        Nets.callers(h, 4);
        Check.ask(h, "x");
        String before = Check.picture(h);
        c.fails("restore", h.restoreSnapshot());
        c.holds("nothing changes", before.equals(Check.picture(h)));
        CellHandover g = new CellHandover();
        c.fails("restore", g.restoreSnapshot());
        g.saveSnapshot();
        c.holds("restore", g.restoreSnapshot());
        c.holds("restore", g.restoreSnapshot());
    }
}
