/** The sentences of promises 14 to 19. */
final class OperationSentences {
    private static final String PAIR = "cell 0 0 40 10 1 0 0 0;cell 0 0 50 10 1 1 20 0;relation 1 0 0;relation 0 1 3;";
    private static final int[] NO_SPEED = {-100, 100, Integer.MIN_VALUE, Integer.MAX_VALUE};
    private static final int[] NO_PLACE = {-1, 1000, Integer.MIN_VALUE, Integer.MAX_VALUE};

    private OperationSentences() {
    }

    @Says(at = "Promise 14", value = {"Operation: adds an idle mobile.", "- `x`: 0 to 999", "- `y`: 0 to 999",
        "- `vx`: -99 to 99", "- `vy`: -99 to 99", "Returns the number of the mobile;"})
    @Break({"public int addMobile", "requireRange(x, 0, MAX_COORDINATE)", "requireRange(x, 1, MAX_COORDINATE)"})
    @Break({"public int addMobile", "requireRange(x, 0, MAX_COORDINATE)", "requireRange(x, 0, MAX_COORDINATE - 1)"})
    @Break({"public int addMobile", "requireRange(y, 0, MAX_COORDINATE)", "requireRange(y, 1, MAX_COORDINATE)"})
    @Break({"public int addMobile", "requireRange(y, 0, MAX_COORDINATE)", "requireRange(y, 0, MAX_COORDINATE - 1)"})
    @Break({"public int addMobile", "requireRange(vx, -MAX_SPEED, MAX_SPEED)", "requireRange(vx, -98, MAX_SPEED)"})
    @Break({"public int addMobile", "requireRange(vx, -MAX_SPEED, MAX_SPEED)", "requireRange(vx, -MAX_SPEED, 98)"})
    @Break({"public int addMobile", "requireRange(vy, -MAX_SPEED, MAX_SPEED)", "requireRange(vy, -98, MAX_SPEED)"})
    @Break({"public int addMobile", "requireRange(vy, -MAX_SPEED, MAX_SPEED)", "requireRange(vy, -MAX_SPEED, 98)"})
    @Break({"void place(", "becomeIdle();", ""})
    static void added(Check c) {
        CellHandover h = Nets.with(PAIR);
        Nets.callers(h, 3);
        h.forecastCell(0, 1);
        Check.load(h, PAIR);
        int[][] values = {{0, 0, -99, -99}, {999, 999, 99, 99}, {0, 999, 0, 99}, {999, 0, 99, 0}};
        for (int i = 0; i < values.length; i++) {
            c.is("number", h.addMobile(values[i][0], values[i][1], values[i][2], values[i][3]), i);
            c.is("x", h.x(i), values[i][0]);
            c.is("y", h.y(i), values[i][1]);
            c.is("idle", h.state(i), 0);
            c.is("idle", h.servingCell(i), -1);
            c.is("idle", h.remaining(i), 0);
            c.is("idle", h.requestCell(i), -1);
            c.is("idle", h.reportCount(i, 1), 0);
        }
    }

    @Says(at = "Promise 14", value = "-2 if there are 12 mobiles (nothing changes).")
    @Break({"public int addMobile", "now.mobileCount >= MAX_MOBILES", "now.mobileCount > MAX_MOBILES"})
    @Break({"public int addMobile", "now.mobileCount >= MAX_MOBILES", "now.mobileCount >= MAX_MOBILES - 1"})
    @Break({"public int addMobile", "return REFUSED", "history.record(now); return REFUSED"})
    static void thirteenMobiles(Check c) {
        CellHandover h = new CellHandover();
        for (int i = 0; i < 12; i++) {
            c.is("the mobile " + i, h.addMobile(i, i, i, i), i);
        }
        h.saveSnapshot();
        h.restoreSnapshot();
        c.is("undoCount", h.undoCount(), 0);
        String before = Check.picture(h);
        c.is("the 13th", h.addMobile(0, 0, 0, 0), -2);
        c.holds("nothing changes", before.equals(Check.picture(h)));
    }

    @Says(at = "Promise 14", value = "Throws `IllegalArgumentException` if a parameter is out of range (checked first)")
    @Break({"public int addMobile", "requireRange(x, 0, MAX_COORDINATE)", "requireRange(x, -1, MAX_COORDINATE)"})
    @Break({"public int addMobile", "requireRange(x, 0, MAX_COORDINATE)", "requireRange(x, 0, MAX_COORDINATE + 1)"})
    @Break({"public int addMobile", "requireRange(y, 0, MAX_COORDINATE)", "requireRange(y, -1, MAX_COORDINATE)"})
    @Break({"public int addMobile", "requireRange(y, 0, MAX_COORDINATE)", "requireRange(y, 0, MAX_COORDINATE + 1)"})
    @Break({"public int addMobile", "requireRange(vx, -MAX_SPEED, MAX_SPEED)", "requireRange(vx, -100, MAX_SPEED)"})
    @Break({"public int addMobile", "requireRange(vx, -MAX_SPEED, MAX_SPEED)", "requireRange(vx, -MAX_SPEED, 100)"})
    @Break({"public int addMobile", "requireRange(vy, -MAX_SPEED, MAX_SPEED)", "requireRange(vy, -100, MAX_SPEED)"})
    @Break({"public int addMobile", "requireRange(vy, -MAX_SPEED, MAX_SPEED)", "requireRange(vy, -MAX_SPEED, 100)"})
    @Break({"public int addMobile", "requireRange(x", "if (now.mobileCount >= MAX_MOBILES) { return REFUSED; } requireRange(x"})
    @Break({"public int addMobile", "requireRange(x", "history.record(now); requireRange(x"})
    static void wrongMobiles(Check c) {
        CellHandover h = new CellHandover();
        for (int mobiles = 0; mobiles <= 12; mobiles += 12) {
            String before = Check.picture(h);
            for (int place : NO_PLACE) {
                c.illegal("x " + place, () -> h.addMobile(place, 0, 0, 0));
                c.illegal("y " + place, () -> h.addMobile(0, place, 0, 0));
            }
            for (int speed : NO_SPEED) {
                c.illegal("vx " + speed, () -> h.addMobile(0, 0, speed, 0));
                c.illegal("vy " + speed, () -> h.addMobile(0, 0, 0, speed));
            }
            c.holds("nothing changes", before.equals(Check.picture(h)));
            for (int i = 0; i < 12; i++) {
                h.addMobile(0, 0, 0, 0);
            }
        }
    }

    @Says(at = "Promise 15", value = {"Operation: changes the velocity of a mobile.", "- `vx`: -99 to 99", "- `vy`: -99 to 99",
        "Returns the state of the mobile."})
    @Break({"public int setVelocity", "requireRange(vx, -MAX_SPEED, MAX_SPEED)", "requireRange(vx, -98, MAX_SPEED)"})
    @Break({"public int setVelocity", "requireRange(vx, -MAX_SPEED, MAX_SPEED)", "requireRange(vx, -MAX_SPEED, 98)"})
    @Break({"public int setVelocity", "requireRange(vy, -MAX_SPEED, MAX_SPEED)", "requireRange(vy, -98, MAX_SPEED)"})
    @Break({"public int setVelocity", "requireRange(vy, -MAX_SPEED, MAX_SPEED)", "requireRange(vy, -MAX_SPEED, 98)"})
    @Break({"public int setVelocity", "return changed.state", "return changed.state == IDLE ? 0 : 1"})
    @Break({"public int setVelocity", "changed.vy = vy;", ""})
    static void velocities(Check c) {
        CellHandover h = Nets.with("cell 500 500 60 1 1 1 0 0;");
        for (int i = 0; i < 3; i++) {
            h.addMobile(500, 500, 9, 9);
        }
        h.call(1, 9);
        h.call(2, 9);
        c.is("idle", h.setVelocity(0, -99, 99), 0);
        c.is("talking", h.setVelocity(1, 99, -99), 1);
        c.is("waiting", h.setVelocity(2, 0, 1), 2);
        c.is("they stay where they are", h.x(0) + h.y(0), 1000);
        h.run(1);
        int[][] due = {{401, 599}, {599, 401}, {500, 501}};
        for (int i = 0; i < 3; i++) {
            c.is("x", h.x(i), due[i][0]);
            c.is("y", h.y(i), due[i][1]);
        }
    }

    @Says(at = "Promise 15", value = "Throws `NoSuchElementException` if there is no such mobile (checked first)")
    @Break({"public int setVelocity", "requireMobile(mobile);", ""})
    @Break({"public int setVelocity", "requireMobile(mobile);\n        requireRange(vx, -MAX_SPEED, MAX_SPEED);",
            "requireRange(vx, -MAX_SPEED, MAX_SPEED);\n        requireMobile(mobile);"})
    @Break({"private void requireMobile", "mobile < 0 || ", ""})
    @Break({"private void requireMobile", "mobile >= now.mobileCount", "mobile > now.mobileCount"})
    static void noMobileForVelocity(Check c) {
        CellHandover h = new CellHandover();
        c.noSuch("no mobiles", () -> h.setVelocity(0, 0, 0));
        h.addMobile(0, 0, 0, 0);
        h.addMobile(0, 0, 0, 0);
        int[] none = {-1, 2, 12, Integer.MIN_VALUE, Integer.MAX_VALUE};
        for (int mobile : none) {
            c.noSuch("no mobile " + mobile, () -> h.setVelocity(mobile, 0, 0));
            c.noSuch("checked first", () -> h.setVelocity(mobile, 100, 0));
            c.noSuch("checked first", () -> h.setVelocity(mobile, 0, -100));
        }
        c.is("the last one", h.setVelocity(1, 0, 0), 0);
    }

    @Says(at = "Promise 15", value = "Throws `IllegalArgumentException` if a parameter is out of range")
    @Break({"public int setVelocity", "requireRange(vx, -MAX_SPEED, MAX_SPEED)", "requireRange(vx, -100, MAX_SPEED)"})
    @Break({"public int setVelocity", "requireRange(vx, -MAX_SPEED, MAX_SPEED)", "requireRange(vx, -MAX_SPEED, 100)"})
    @Break({"public int setVelocity", "requireRange(vy, -MAX_SPEED, MAX_SPEED)", "requireRange(vy, -100, MAX_SPEED)"})
    @Break({"public int setVelocity", "requireRange(vy, -MAX_SPEED, MAX_SPEED)", "requireRange(vy, -MAX_SPEED, 100)"})
    @Break({"public int setVelocity", "requireRange(vy", "history.record(now); requireRange(vy"})
    @Break({"public int setVelocity", "requireRange(vy", "now.mobileAt(mobile).vx = vx; requireRange(vy"})
    static void wrongVelocities(Check c) {
        CellHandover h = new CellHandover();
        h.addMobile(500, 500, 7, 8);
        for (int speed : NO_SPEED) {
            c.illegal("vx " + speed, () -> h.setVelocity(0, speed, 0));
            c.illegal("vy " + speed, () -> h.setVelocity(0, 0, speed));
        }
        c.is("nothing is recorded", h.undoCount(), 1);
        h.run(1);
        c.is("nothing changes", h.x(0), 507);
        c.is("nothing changes", h.y(0), 508);
    }

    @Says(at = "Promise 16", value = {"Operation: sets up a call of a mobile at its present position.",
        "- `duration`: 1 to 500 ticks", "Returns the cell at which the mobile begins to talk;"})
    @Break({"public int call(", "requireRange(duration, 1, MAX_DURATION)", "requireRange(duration, 2, MAX_DURATION)"})
    @Break({"public int call(", "requireRange(duration, 1, MAX_DURATION)", "requireRange(duration, 1, MAX_DURATION - 1)"})
    @Break({"public int call(", "now.coveringCell(caller.x, caller.y)", "now.coveringCell(caller.y, caller.x)"})
    @Break({"int setUpCall", "return cell;", "return strongest;"})
    static void calls(Check c) {
        CellHandover h = Nets.with("cell 0 0 60 10 2 0 0 0;cell 900 0 60 10 1 0 0 0;relation 0 1 0;");
        h.addMobile(0, 0, 90, 0);
        c.is("the cell there", Nets.caller(h, 0, 0), 0);
        c.is("duration 500", h.remaining(1), 500);
        h.run(10);
        c.is("its present position", h.call(0, 1), 1);
        c.is("duration 1", h.remaining(0), 1);
        c.is("servingCell", h.servingCell(0), 1);
        h.run(1);
        c.is("ended", h.state(0), 0);
        c.is("the last channel", Nets.caller(h, 0, 0), 0);
        c.is("by directed retry", Nets.caller(h, 0, 0), 1);
        c.is("servingCell", h.servingCell(3), 1);
    }

    @Says(at = "Promise 16", value = "-2 if the mobile is not idle;")
    @Break({"public int call(", "caller.state != IDLE", "caller.state == TALKING"})
    @Break({"public int call(", "caller.state != IDLE", "caller.state == WAITING"})
    @Break({"public int call(", "return REFUSED", "caller.remaining = duration; return REFUSED"})
    @Break({"public int call(", "return REFUSED", "history.record(now); return REFUSED"})
    static void notIdle(Check c) {
        CellHandover h = Nets.with(PAIR);
        Nets.callers(h, 3);
        h.addMobile(999, 999, 0, 0);
        String before = Check.picture(h);
        c.is("talking", h.call(0, 9), -2);
        c.is("talking", h.call(1, 9), -2);
        c.is("waiting", h.call(2, 9), -2);
        c.holds("nothing changes", before.equals(Check.picture(h)));
        // Without coverage too: the mobile moves away while it talks.
        CellHandover g = Nets.with("cell 0 0 60 10 1 1 20 0;settings 4 2 5 4 0 3;");
        g.addMobile(0, 0, 99, 0);
        g.call(0, 99);
        g.run(9);
        c.is("no cell there", g.strongestCell(g.x(0), 0), -1);
        c.is("talking", g.call(0, 9), -2);
        g.hangUp(0);
        c.is("idle", g.call(0, 9), -4);
    }

    @Says(at = "Promise 16", value = {"-3 if it waits for set-up now;", "-4 if there is no coverage;"})
    @Break({"", "WAITS = -3", "WAITS = -5"})
    @Break({"", "UNCOVERED = -4", "UNCOVERED = -5"})
    @Break({"public int call(", "return UNCOVERED", "history.record(now); return UNCOVERED"})
    @Break({"public int call(", "return UNCOVERED", "now.count(BLOCKED_CALLS); return UNCOVERED"})
    static void waitingOrUncovered(Check c) {
        CellHandover h = Nets.with(PAIR);
        Nets.callers(h, 2);
        c.is("waits", Nets.caller(h, 0, 0), -3);
        c.is("state", h.state(2), 2);
        c.is("requestCell", h.requestCell(2), 1);
        c.is("remaining", h.remaining(2), 500);
        h.addMobile(310, 0, 0, 0);
        h.addMobile(300, 0, 0, 0);
        String before = Check.picture(h);
        c.is("level 19 for 20", h.call(3, 9), -4);
        c.holds("nothing changes", before.equals(Check.picture(h)));
        c.is("level 20 for 20", h.call(4, 9), -5);
    }

    @Says(at = "Promise 16", value = "-5 if the call is blocked (only the count of blocked calls changes).")
    @Break({"", "BLOCKED = -5", "BLOCKED = -3"})
    @Break({"int setUpCall", "count(BLOCKED_CALLS);", ""})
    @Break({"int setUpCall", "count(BLOCKED_CALLS);", "count(BLOCKED_CALLS); caller.remaining = duration;"})
    @Break({"int setUpCall", "count(BLOCKED_CALLS);", "count(BLOCKED_CALLS); count(EXPIRED_REQUESTS);"})
    static void blocked(Check c) {
        CellHandover h = Nets.with(PAIR);
        Nets.callers(h, 3);
        h.addMobile(0, 0, 0, 0);
        String before = Check.scene(h);
        int undoCount = h.undoCount();
        c.is("blocked", h.call(3, 9), -5);
        c.is("the count", h.total(4), 1);
        c.is("recorded", h.undoCount(), undoCount + 1);
        c.fails("the count changes", before.equals(Check.scene(h)));
        h.undo();
        c.holds("undone", before.equals(Check.scene(h)));
        c.is("blocked", h.call(3, 9), -5);
        c.is("blocked", h.call(3, 9), -5);
        c.is("the count", h.total(4), 2);
        int[] others = {0, 0, 0, 0, 2, 1, 0, 0};
        for (int what = 0; what < 8; what++) {
            c.is("total " + what, h.total(what), others[what]);
        }
        c.is("state", h.state(3), 0);
        c.is("remaining", h.remaining(3), 0);
        c.is("requestCell", h.requestCell(3), -1);
        c.is("queue", h.queueLength(1), 1);
        c.is("busy", h.busyChannels(0) + h.busyChannels(1), 2);
    }

    @Says(at = "Promise 16", value = "Throws `NoSuchElementException` if there is no such mobile (checked first)")
    @Break({"public int call(", "requireMobile(mobile);", ""})
    @Break({"public int call(", "requireMobile(mobile);\n        requireRange(duration, 1, MAX_DURATION);",
            "requireRange(duration, 1, MAX_DURATION);\n        requireMobile(mobile);"})
    static void noMobileForCall(Check c) {
        CellHandover h = Nets.with(PAIR);
        c.noSuch("no mobiles", () -> h.call(0, 9));
        h.addMobile(0, 0, 0, 0);
        int[] none = {-1, 1, 12, Integer.MIN_VALUE, Integer.MAX_VALUE};
        for (int mobile : none) {
            c.noSuch("no mobile " + mobile, () -> h.call(mobile, 9));
            c.noSuch("checked first", () -> h.call(mobile, 0));
            c.noSuch("checked first", () -> h.call(mobile, 501));
        }
        c.is("the last one", h.call(0, 9), 1);
    }

    @Says(at = "Promise 16", value = "Throws `IllegalArgumentException` if duration is out of range")
    @Break({"public int call(", "requireRange(duration, 1, MAX_DURATION)", "requireRange(duration, 0, MAX_DURATION)"})
    @Break({"public int call(", "requireRange(duration, 1, MAX_DURATION)", "requireRange(duration, 1, MAX_DURATION + 1)"})
    @Break({"public int call(", "requireRange(duration", "if (now.mobileAt(mobile).state != IDLE) { return REFUSED; } "
            + "requireRange(duration"})
    @Break({"public int call(", "requireRange(duration", "if (now.cellCount == 0) { return UNCOVERED; } requireRange(duration"})
    @Break({"public int call(", "requireRange(duration", "history.record(now); requireRange(duration"})
    static void wrongDurations(Check c) {
        int[] wrong = {0, -1, 501, Integer.MIN_VALUE, Integer.MAX_VALUE};
        CellHandover h = Nets.with(PAIR);
        Nets.callers(h, 3);
        h.addMobile(0, 0, 0, 0);
        CellHandover g = new CellHandover();
        g.addMobile(0, 0, 0, 0);
        String before = Check.picture(h);
        for (int duration : wrong) {
            for (int i = 0; i < 4; i++) {
                int mobile = i;
                c.illegal("duration " + duration, () -> h.call(mobile, duration));
            }
            c.illegal("without cells", () -> g.call(0, duration));
        }
        c.holds("nothing changes", before.equals(Check.picture(h)));
    }

    @Says(at = "Promise 17", value = {"Operation: ends the call of a mobile, or its waiting for set-up.",
        "The mobile becomes idle, and its request, if any, is removed.", "Returns the state that the mobile had;"})
    @Break({"public int hangUp", "return before", "return TALKING"})
    @Break({"public int hangUp", "caller.becomeIdle();", "caller.state = IDLE;"})
    @Break({"void becomeIdle", "requestCell = NONE;", ""})
    @Break({"void becomeIdle", "clearMeasurements();", ""})
    static void hangingUp(Check c) {
        CellHandover h = Nets.with("cell 0 0 40 10 1 0 0 99;cell 0 0 50 10 1 6 0 0;relation 1 0 0;relation 0 1 0;",
                Nets.settings(1, 1, 5, 30, 0, 3));
        Nets.callers(h, 3);
        h.run(1);
        c.is("requests", h.queueLength(1), 2);
        c.is("it waits for a set-up", h.hangUp(2), 2);
        c.is("requests", h.queueLength(1), 1);
        c.is("it waits for a handover", h.hangUp(1), 1);
        c.is("requests", h.queueLength(1), 0);
        c.is("it talks", h.hangUp(0), 1);
        for (int i = 0; i < 3; i++) {
            c.is("idle", h.state(i), 0);
            c.is("idle", h.servingCell(i), -1);
            c.is("idle", h.remaining(i), 0);
            c.is("idle", h.requestCell(i), -1);
            c.is("idle", h.reportCount(i, 0) + h.reportCount(i, 1), 0);
        }
        c.is("busy", h.busyChannels(0) + h.busyChannels(1), 0);
        h.run(5);
        c.is("nothing is served", h.total(6), 0);
        c.is("they may call again", h.call(2, 9), 1);
    }

    @Says(at = "Promise 17", value = "The call does not count as completed, dropped or blocked.")
    @Break({"public int hangUp", "caller.becomeIdle();", "caller.becomeIdle(); now.count(COMPLETED_CALLS);"})
    @Break({"public int hangUp", "caller.becomeIdle();", "caller.becomeIdle(); now.count(DROPPED_CALLS);"})
    @Break({"public int hangUp", "caller.becomeIdle();", "if (before == WAITING) { now.count(BLOCKED_CALLS); } "
            + "caller.becomeIdle();"})
    static void notCounted(Check c) {
        CellHandover h = Nets.with(PAIR);
        Nets.callers(h, 3);
        h.run(1);
        for (int i = 0; i < 3; i++) {
            h.hangUp(i);
        }
        h.run(9);
        for (int what = 0; what < 8; what++) {
            c.is("total " + what, h.total(what), what == 5 ? 1 : 0);
        }
    }

    @Says(at = "Promise 17", value = "-2 if it was idle (nothing changes).")
    @Break({"public int hangUp", "return REFUSED", "return IDLE"})
    @Break({"public int hangUp", "return REFUSED", "history.record(now); return REFUSED"})
    static void hangingUpIdle(Check c) {
        CellHandover h = Nets.with(PAIR);
        h.addMobile(0, 0, 0, 0);
        h.call(0, 9);
        h.hangUp(0);
        String before = Check.picture(h);
        c.is("idle", h.hangUp(0), -2);
        c.is("idle", h.hangUp(0), -2);
        c.holds("nothing changes", before.equals(Check.picture(h)));
    }

    @Says(at = "Promise 17", value = "Throws `NoSuchElementException` if there is no such mobile")
    @Break({"public int hangUp", "requireMobile(mobile);", ""})
    static void noMobileToHangUp(Check c) {
        CellHandover h = Nets.with(PAIR);
        c.noSuch("no mobiles", () -> h.hangUp(0));
        Nets.callers(h, 2);
        int[] none = {-1, 2, 12, Integer.MIN_VALUE, Integer.MAX_VALUE};
        for (int mobile : none) {
            c.noSuch("no mobile " + mobile, () -> h.hangUp(mobile));
        }
        c.is("the last one", h.hangUp(1), 1);
    }

    @Says(at = "Promise 18", value = {"Operation: changes the hysteresis of a relation.", "- `value`: 0 to 30",
        "Returns the previous hysteresis;"})
    @Break({"public int setHysteresis", "requireRange(value, 0, MAX_HYSTERESIS)", "requireRange(value, 1, MAX_HYSTERESIS)"})
    @Break({"public int setHysteresis", "requireRange(value, 0, MAX_HYSTERESIS)", "requireRange(value, 0, 29)"})
    @Break({"public int setHysteresis", "return before", "return value"})
    @Break({"public int setHysteresis", "now.relationAt(from, to)", "now.relationAt(to, from)"})
    static void settingHysteresis(Check c) {
        CellHandover h = Nets.with(PAIR);
        c.is("before", h.setHysteresis(0, 1, 30), 3);
        c.is("before", h.setHysteresis(0, 1, 0), 30);
        c.is("before", h.setHysteresis(0, 1, 7), 0);
        c.is("now", h.hysteresis(0, 1), 7);
        c.is("the other one", h.hysteresis(1, 0), 0);
        c.is("the same again", h.setHysteresis(0, 1, 7), 7);
        c.is("recorded", h.undoCount(), 4);
    }

    @Says(at = "Promise 18", value = "-2 if there is no such relation (nothing changes).")
    @Break({"public int setHysteresis", "return REFUSED", "return NONE"})
    @Break({"public int setHysteresis", "return REFUSED", "history.record(now); return REFUSED"})
    @Break({"public int setHysteresis", "if (!relation.exists)", "if (false)"})
    static void noRelation(Check c) {
        CellHandover h = Nets.with("cell 0 0 40 10 1 0 0 0;cell 0 0 50 10 1 1 20 0;relation 0 1 3;");
        String before = Check.picture(h);
        c.is("back", h.setHysteresis(1, 0, 5), -2);
        c.is("to itself", h.setHysteresis(0, 0, 5), -2);
        c.is("to itself", h.setHysteresis(1, 1, 0), -2);
        c.holds("nothing changes", before.equals(Check.picture(h)));
        c.is("no relation has been made", h.relationCount(), 1);
    }

    @Says(at = "Promise 18", value = {"Throws `NoSuchElementException` if there is no such cell (checked first)",
        "Throws `IllegalArgumentException` if value is out of range"})
    @Break({"public int setHysteresis", "requireCell(from);", ""})
    @Break({"public int setHysteresis", "requireCell(to);", ""})
    @Break({"public int setHysteresis", "requireCell(to);\n        requireRange(value, 0, MAX_HYSTERESIS);",
            "requireRange(value, 0, MAX_HYSTERESIS);\n        requireCell(to);"})
    @Break({"public int setHysteresis", "requireRange(value, 0, MAX_HYSTERESIS)", "requireRange(value, -1, MAX_HYSTERESIS)"})
    @Break({"public int setHysteresis", "requireRange(value, 0, MAX_HYSTERESIS)", "requireRange(value, 0, 31)"})
    @Break({"public int setHysteresis", "requireRange(value", "if (!now.relationAt(from, to).exists) { return REFUSED; } "
            + "requireRange(value"})
    static void wrongHysteresis(Check c) {
        CellHandover h = Nets.with("cell 0 0 40 10 1 0 0 0;cell 0 0 50 10 1 1 20 0;relation 0 1 3;");
        String before = Check.picture(h);
        int[] none = {-1, 2, 8, Integer.MIN_VALUE, Integer.MAX_VALUE};
        for (int cell : none) {
            c.noSuch("from " + cell, () -> h.setHysteresis(cell, 1, 5));
            c.noSuch("to " + cell, () -> h.setHysteresis(0, cell, 5));
            c.noSuch("checked first", () -> h.setHysteresis(cell, 1, 31));
            c.noSuch("checked first", () -> h.setHysteresis(0, cell, -1));
        }
        int[] wrong = {-1, 31, Integer.MIN_VALUE, Integer.MAX_VALUE};
        for (int value : wrong) {
            c.illegal("value " + value, () -> h.setHysteresis(0, 1, value));
            c.illegal("value " + value + " without a relation", () -> h.setHysteresis(1, 0, value));
        }
        c.holds("nothing changes", before.equals(Check.picture(h)));
    }

    @Says(at = "Promise 19", value = {"Operation: simulates ticks.", "- `ticks`: 0 to 60"})
    @Break({"", "MAX_TICKS = 60", "MAX_TICKS = 59"})
    @Break({"private void requireTicks", "requireRange(ticks, 0, most)", "requireRange(ticks, 1, most)"})
    @Break({"void advance(Network network, int ticks)", "i < ticks", "i < Math.min(ticks, 59)"})
    static void running(Check c) {
        for (int ticks = 0; ticks <= 60; ticks++) {
            CellHandover h = Nets.with("cell 0 0 60 10 1 0 0 0;");
            h.addMobile(0, 0, 16, 1);
            h.addMobile(0, 0, 0, 0);
            h.call(1, 500);
            c.is("no handovers", h.run(ticks), 0);
            c.is("clock", h.clock(), ticks);
            c.is("x", h.x(0), 16 * ticks);
            c.is("y", h.y(0), ticks);
            c.is("remaining", h.remaining(1), 500 - ticks);
            c.is("recorded", h.undoCount(), 4);
        }
    }

    @Says(at = "Promise 19", value = "Returns the number of handovers in these ticks.")
    @Break({"public int run(", "now.totalOf(HANDOVERS) - before", "now.totalOf(HANDOVERS)"})
    @Break({"public int run(", "int before = now.totalOf(HANDOVERS)", "int before = now.totalOf(SERVED_REQUESTS)"})
    static void handovers(Check c) {
        CellHandover h = Nets.with("cell 0 0 60 10 2 0 0 0;cell 500 0 60 10 2 0 0 0;relation 0 1 0;relation 1 0 0;",
                Nets.settings(1, 1, 0, 30, 0, 3));
        for (int i = 0; i < 2; i++) {
            h.addMobile(200, 0, 10, 0);
            h.call(i, 500);
        }
        c.is("no tick", h.run(0), 0);
        c.is("at 200 to 250", h.run(5), 0);
        c.is("both, at 260", h.run(20), 2);
        h.setVelocity(0, -20, 0);
        c.is("one comes back", h.run(20), 1);
        c.is("none", h.run(20), 0);
        c.is("all", h.total(0), 3);
        // A handover from a queue counts too.
        CellHandover g = Nets.with("cell 0 0 40 10 1 0 0 99;cell 0 0 50 10 1 6 0 0;relation 1 0 0;relation 0 1 0;",
                Nets.settings(1, 1, 5, 30, 0, 3));
        g.addMobile(0, 0, 0, 0);
        g.call(0, 3);
        Nets.caller(g, 0, 0);
        c.is("one", g.run(9), 1);
        c.is("served", g.total(6), 1);
    }

    @Says(at = "Promise 19", value = "Throws `IllegalArgumentException` if ticks is out of range or the clock would exceed "
            + "100000 (nothing changes)")
    @Break({"", "MAX_TICKS = 60", "MAX_TICKS = 61"})
    @Break({"private void requireTicks", "requireRange(ticks, 0, most)", "requireRange(ticks, -1, most)"})
    @Break({"private void requireTicks", "requireRange(ticks, 0, most)", "requireRange(ticks, Integer.MIN_VALUE, most)"})
    @Break({"", "MAX_CLOCK = 100000", "MAX_CLOCK = 99999"})
    @Break({"", "MAX_CLOCK = 100000", "MAX_CLOCK = 100001"})
    @Break({"public int run(", "requireTicks(ticks, MAX_TICKS);", "history.record(now); requireTicks(ticks, MAX_TICKS);"})
    @Break({"private void requireTicks", "requireRange(now.clock + ticks, 0, MAX_CLOCK)", "requireRange(now.clock, 0, MAX_CLOCK)"})
    static void wrongTicks(Check c) {
        CellHandover h = Nets.with(PAIR);
        Nets.callers(h, 3);
        h.run(1);
        String before = Check.picture(h);
        int[] wrong = {-1, 61, Integer.MIN_VALUE, Integer.MAX_VALUE};
        for (int ticks : wrong) {
            c.illegal("ticks " + ticks, () -> h.run(ticks));
        }
        c.holds("nothing changes", before.equals(Check.picture(h)));
        // There is no way to the clock 100000 with 512 calls; this takes more.
        CellHandover g = new CellHandover();
        for (int i = 0; i < 1666; i++) {
            g.run(60);
        }
        c.is("clock", g.clock(), 99960);
        String late = Check.picture(g);
        c.illegal("100001", () -> g.run(41));
        c.illegal("100020", () -> g.run(60));
        c.holds("nothing changes", late.equals(Check.picture(g)));
        c.is("99999", g.run(39), 0);
        c.illegal("100001", () -> g.run(2));
        c.is("100000", g.run(1), 0);
        c.is("clock", g.clock(), 100000);
        c.illegal("100001", () -> g.run(1));
        c.is("100000", g.run(0), 0);
        c.illegal("a tick back", () -> g.run(-1));
    }
}
