/** Promises 1 to 9: a new object, the buffer, the text of a network and what it leaves. */
public final class NetworkTextTest {
    private static final String CELL = "cell 0 0 60 10 1 1 10 20;";
    private static final String TWO = CELL + "cell 400 0 60 10 1 1 10 20;";
    private static final Check CHECK = new Check();

    public static void main(String[] args) {
        newObject();
        feeding();
        lengths();
        goodTexts();
        badWords();
        badNumbers();
        badRelations();
        tooMany();
        loadReplaces();
        errorKeeps();
        loadAfterTrials();
        forgottenMobiles();
        forgottenRequest();
        hystereses();
        CHECK.end();
    }

    private static void newObject() {
        CellHandover h = new CellHandover();
        CHECK.is("cellCount", h.cellCount(), 0);
        CHECK.is("relationCount", h.relationCount(), 0);
        CHECK.is("mobileCount", h.mobileCount(), 0);
        CHECK.is("clock", h.clock(), 0);
        CHECK.is("errorPosition", h.errorPosition(), -1);
        CHECK.is("undoCount", h.undoCount(), 0);
        CHECK.is("undo", h.undo(), -1);
        CHECK.fails("restoreSnapshot", h.restoreSnapshot());
        for (int what = 0; what < 8; what++) {
            CHECK.is("total", h.total(what), 0);
        }
        CHECK.is("strongestCell", h.strongestCell(5, 5), -1);
        CHECK.is("missingRelation", h.missingRelation(30), -1);
        CHECK.noSuch("hysteresis", () -> h.hysteresis(0, 0));
        CHECK.noSuch("coverage", () -> h.coverage(0));
        CHECK.noSuch("x", () -> h.x(0));
        CHECK.is("addMobile", h.addMobile(1, 2, 3, 4), 0);
        CHECK.is("call", h.call(0, 5), -4);
        CHECK.is("run", h.run(2), 0);
        CHECK.is("x", h.x(0), 7);
        CHECK.is("y", h.y(0), 10);
    }

    private static void feeding() {
        CellHandover h = new CellHandover();
        for (int i = 1; i <= 35; i++) {
            CHECK.is("feed " + i, h.feed(0x20202020, 0x20202020, 0x20202020, 0x20202020, 0x20202020), 20 * i);
        }
        CHECK.is("feed 36", h.feed(0x41414141, 0, 0, 0, 0), -1);
        CHECK.illegal("load 701", () -> h.load(701));
        CHECK.is("feed 37", h.feed(0x41414141, 0, 0, 0, 0), -1);
        CHECK.is("load 700", h.load(700), 0);
        CHECK.is("feed after load", h.feed(0x41414141, 0, 0, 0, 0), 20);

        CellHandover g = new CellHandover();
        // Each byte stands in another place of its word: "cell 0 0 60 10 1 1 1" + "0 20;" + "cel" ...
        Check.feed(g, TWO + "relation 0 1 7;");
        CHECK.is("load", g.load(TWO.length() + 15), 2);
        CHECK.is("hysteresis", g.hysteresis(0, 1), 7);
        for (int place = 0; place < 20; place++) {
            int[] words = {0x20202020, 0x20202020, 0x20202020, 0x20202020, 0x20202020};
            words[place / 4] ^= (0x20 ^ 0xE9) << 24 - place % 4 * 8;
            CHECK.is("feed", g.feed(words[0], words[1], words[2], words[3], words[4]), 20);
            CHECK.is("load", g.load(20), -11);
            CHECK.is("place of a byte", g.errorPosition(), place);
        }
    }

    private static void lengths() {
        CellHandover h = new CellHandover();
        CHECK.is("load 0 of nothing", h.load(0), 0);
        CHECK.illegal("load 1 of nothing", () -> h.load(1));
        Check.feed(h, "foo");
        CHECK.is("load", h.load(3), -11);
        CHECK.is("position", h.errorPosition(), 0);
        Check.feed(h, CELL);
        String before = Check.picture(h);
        CHECK.illegal("load -1", () -> h.load(-1));
        CHECK.illegal("load 41", () -> h.load(41));
        CHECK.illegal("load min", () -> h.load(Integer.MIN_VALUE));
        CHECK.illegal("load max", () -> h.load(Integer.MAX_VALUE));
        CHECK.holds("nothing changes", before.equals(Check.picture(h)));
        CHECK.is("feed", h.feed(0, 0, 0, 0, 0), 60);
        CHECK.is("load the beginning", h.load(25), 1);
        CHECK.is("position", h.errorPosition(), -1);
        CHECK.is("the rest is gone", h.feed(0, 0, 0, 0, 0), 20);
        CHECK.is("load 0", h.load(0), 0);
        CHECK.is("cells", h.cellCount(), 0);
        CHECK.is("feed after load 0", h.feed(0, 0, 0, 0, 0), 20);
    }

    /** The error stands where the text has the sign '^', which isn't fed. */
    private static void text(String marked, int due) {
        int place = marked.indexOf('^');
        String text = place < 0 ? marked : marked.substring(0, place) + marked.substring(place + 1);
        CellHandover h = new CellHandover();
        CHECK.is("load " + text, Check.load(h, text), due);
        CHECK.is("position in " + text, h.errorPosition(), place);
        CHECK.is("feed after " + text, h.feed(0, 0, 0, 0, 0), 20);
    }

    private static void goodTexts() {
        text("", 0);
        text(" \n  ", 0);
        text(CELL, 1);
        text(TWO, 2);
        text("cell0 0 60 10 1 1 10 20;cell 0\n0\n\n60 10 1 1 10 20  ;  ", 2);
        text("  cell 0000 000 0000000000060 10 01 01 010 00020 ;", 1);
        text("cell 999 999 99 50 8 6 99 99;", 1);
        text("cell 0 0 1 1 1 0 0 0;", 1);
        text(TWO + "relation 0 1 30;relation 1 0 0;", 2);
        text("settings 8 8 50 30 99 20;settings 1 1 0 1 0 1;" + CELL, 1);
        text("settings 3 3 0 1 0 1;", 0);
    }

    private static void badWords() {
        text("^;", -11);
        text("^foo;", -11);
        text("^cells 0 0 60 10 1 1 10 20;", -11);
        text("^cel 0 0 60 10 1 1 10 20;", -11);
        text("^cellz 0 0 60 10 1 1 10 20;", -11);
        text("^acell 0 0 60 10 1 1 10 20;", -11);
        text("cell 0^`0 60 10 1 1 10 20;", -11);
        text("cell 0^{0 60 10 1 1 10 20;", -11);
        text("cell 0^/0 60 10 1 1 10 20;", -11);
        text("cell 0^:0 60 10 1 1 10 20;", -11);
        text("^Cell 0 0 60 10 1 1 10 20;", -11);
        text("^many", -11);
        text("^5", -11);
        text("cell^", -11);
        text("cell 0   ^", -11);
        text("cell 0 0 60 10 1 1 10 20^", -11);
        text("cell 0 0 60 10 1 1 10 20 \n ^", -11);
        text("cell 0 0 60 10 1 1 10^;", -11);
        text("cell 0 0 60 10 1 1 10 20 ^5;", -11);
        text("cell ^x 0 60 10 1 1 10 20;", -11);
        text("cell 0^,0 60 10 1 1 10 20;", -11);
        text("cell ^-1 0 60 10 1 1 10 20;", -11);
        text("cell^\t0 0 60 10 1 1 10 20;", -11);
        text("cell^\r0 0 60 10 1 1 10 20;", -11);
        text("cell^\0000 0 60 10 1 1 10 20;", -11);
        text("cell 0^\u00ff 0 60 10 1 1 10 20;", -11);
        text("cell 0^\u0080 0 60 10 1 1 10 20;", -11);
        text(CELL + "^;", -11);
        text(CELL + "relation^", -11);
        text(CELL + "relation ^;", -11);
        text(TWO + "relation 0 ^;", -11);
        text(TWO + "relation 0 1 ^;", -11);
        text(TWO + "relation 0 1 5^", -11);
        text(TWO + "relation 0 1 5 ^relation", -11);
        text("settings ^cell", -11);
        text("settings 4 2 5 4 5^;", -11);
        text("settings 4 2 5 4 5 3 ^3;", -11);
        text("settings 4 2 5 4 5 3^", -11);
    }

    private static void badNumbers() {
        String[] cellNames = {"x", "y", "power", "slope", "channels", "capacity", "access", "low"};
        int[] cell = {0, 999, 0, 999, 1, 99, 1, 50, 1, 8, 0, 6, 0, 99, 0, 99};
        ranges("cell", cellNames, cell, new int[] {7, 7, 7, 7, 7, 5, 7, 7}, 1);
        String[] settingNames = {"window", "minimum", "ping-pong", "queue time", "drop level", "drop time"};
        int[] settings = {1, 8, 1, 6, 0, 50, 1, 30, 0, 99, 1, 20};
        ranges("settings", settingNames, settings, new int[] {6, 1, 5, 5, 5, 5}, 0);
        text("settings 3 ^4 0 1 0 1;", -12);
        text("settings 1 ^2 0 1 0 1;", -12);
        text("cell ^4294967296 0 60 10 1 1 10 20;", -12);
        text("cell ^18446744073709551616 0 60 10 1 1 10 20;", -12);
        text("cell ^1000000000000000000000000000000000000000000000000000000 0 60 10 1 1 10 20;", -12);
        text("cell ^0001000 0 60 10 1 1 10 20;", -12);
        text("cell ^2147483648 0 60 10 1 1 10 20;", -12);
        text("cell ^100001 ;", -12);
    }

    private static void ranges(String clause, String[] names, int[] ranges, int[] usual, int cells) {
        for (int i = 0; i < usual.length; i++) {
            int low = ranges[2 * i];
            int high = ranges[2 * i + 1];
            text(withNumber(clause, usual, i, Integer.toString(low)), cells);
            text(withNumber(clause, usual, i, Integer.toString(high)), cells);
            text(withNumber(clause, usual, i, "^" + (high + 1)), -12);
            text(withNumber(clause, usual, i, low > 0 ? "^0" : "^-1"), low > 0 ? -12 : -11);
            CHECK.holds(names[i], low <= usual[i] && usual[i] <= high);
        }
    }

    private static String withNumber(String clause, int[] usual, int place, String number) {
        StringBuilder to = new StringBuilder(clause);
        for (int i = 0; i < usual.length; i++) {
            to.append(' ').append(i == place ? number : Integer.toString(usual[i]));
        }
        return to.append(';').toString();
    }

    private static void badRelations() {
        text("relation ^0 1 1;", -12);
        text(CELL + "relation 0 ^1 1;", -12);
        text(CELL + "relation 0 ^1 1;" + CELL, -12);
        text(TWO + "relation ^2 0 1;", -12);
        text(TWO + "relation 0 ^2 1;", -12);
        text(TWO + "relation 0 ^0 1;", -12);
        text(TWO + "relation 1 ^1 1;", -12);
        text(TWO + "relation 0 1 ^31;", -12);
        text(TWO + "relation 0 1 3;relation 0 ^1 3;", -14);
        text(TWO + "relation 0 1 3;relation 1 0 3;relation 1 ^0 31", -14);
        text(TWO + "relation 0 1 3;relation 0 ^0 3;", -12);
        text(TWO + "relation 0 1 3;relation 1 0 3;", 2);
        CellHandover h = new CellHandover();
        CHECK.is("bad relation", Check.load(h, TWO + "relation 0 1 3;relation 0 1 3;"), -14);
        CHECK.is("forgotten relation", Check.load(h, TWO + "relation 0 1 3;"), 2);
        CHECK.is("relations", h.relationCount(), 1);
    }

    private static void tooMany() {
        StringBuilder eight = new StringBuilder();
        for (int i = 0; i < 8; i++) {
            eight.append("cell 0 0 9 9 1 1 1 1;");
        }
        text(eight.toString(), 8);
        text(eight + "^cell 0 0 9 9 1 1 1 1;", -13);
        text(eight + "^cell", -13);
        text(eight + "^cel", -11);
        StringBuilder full = new StringBuilder(eight);
        for (int i = 0; i < 24; i++) {
            full.append("relation ").append(i / 7).append(' ').append(i % 7 < i / 7 ? i % 7 : i % 7 + 1).append(" 1;");
        }
        text(full.toString(), 8);
        CHECK.is("relations", Check.loaded(full.toString()).relationCount(), 24);
        text(full + "^relation 7 6 1;", -13);
        text(full + "^relation 0 1 1;", -13);
        text(full + "settings 1 1 0 1 0 1;", 8);
        text(full + "^cell 0 0", -13);
    }

    private static void loadReplaces() {
        CellHandover h = Check.loaded(TWO + "relation 0 1 3;settings 1 1 9 9 9 9;");
        h.addMobile(0, 0, 0, 0);
        h.call(0, 9);
        h.addMobile(0, 0, 0, 0);
        h.call(1, 9);
        h.addMobile(0, 0, 0, 0);
        h.call(2, 9);
        h.addMobile(0, 0, 0, 0);
        h.call(3, 9);
        h.run(5);
        h.saveSnapshot();
        String saved = Check.picture(h);
        CHECK.is("directed retries", h.total(5), 1);
        CHECK.is("blocked", h.total(4), 1);
        CHECK.is("congested", h.congestedTicks(0), 5);
        CHECK.is("load", Check.load(h, CELL), 1);
        CHECK.is("cellCount", h.cellCount(), 1);
        CHECK.is("relationCount", h.relationCount(), 0);
        CHECK.is("mobileCount", h.mobileCount(), 0);
        CHECK.is("clock", h.clock(), 0);
        CHECK.is("undoCount", h.undoCount(), 0);
        CHECK.is("congested", h.congestedTicks(0), 0);
        for (int what = 0; what < 8; what++) {
            CHECK.is("total " + what, h.total(what), 0);
        }
        CHECK.is("undo", h.undo(), -1);
        h.addMobile(0, 0, 0, 0);
        CHECK.is("state", h.state(0), 0);
        CHECK.is("call", h.call(0, 9), 0);
        CHECK.is("run", h.run(6), 0);
        CHECK.is("the window is 4 again", h.reportCount(0, 0), 4);
        CHECK.holds("restoreSnapshot", h.restoreSnapshot());
        CHECK.is("undoCount", h.undoCount(), 0);
        CHECK.is("mobiles of the snapshot", h.mobileCount(), 4);
        for (int i = 0; i < 9; i++) {
            h.setVelocity(0, 0, 0);
        }
        CHECK.holds("the snapshot", saved.equals(Check.picture(h)));
        CHECK.is("load again", Check.load(h, TWO), 2);
        CHECK.is("relationCount", h.relationCount(), 0);
        CHECK.is("hysteresis", h.hysteresis(0, 1), -1);
        CHECK.is("busy", h.busyChannels(0), 0);
        CHECK.is("queue", h.queueLength(0), 0);
    }

    private static void errorKeeps() {
        CellHandover h = Check.loaded(TWO + "relation 0 1 3;settings 1 1 9 9 9 9;");
        h.addMobile(0, 0, 0, 0);
        h.call(0, 9);
        h.run(2);
        h.addMobile(0, 0, 0, 0);
        h.saveSnapshot();
        h.call(1, 50);
        CHECK.is("position", h.errorPosition(), -1);
        String before = Check.picture(h);
        CHECK.is("load", Check.load(h, "cell 0 0 60 10 1 1 10 20;cell 1 1;"), -11);
        CHECK.is("position", h.errorPosition(), 33);
        CHECK.is("an empty query", h.query(0), -1000000001);
        CHECK.is("position of the empty query", h.errorPosition(), 0);
        CHECK.is("a query", Check.ask(h, "many x=0"), 2);
        CHECK.is("position of a good query", h.errorPosition(), -1);
        CHECK.holds("nothing else changes", before.equals(Check.picture(h)));
        CHECK.is("load", Check.load(h, "settings 8 8 0 1 0"), -11);
        CHECK.is("position", h.errorPosition(), 18);
        CHECK.is("run", h.run(5), 0);
        CHECK.is("the window is still 1", h.reportCount(0, 0), 1);
        CHECK.is("position after other calls", h.errorPosition(), 18);
        CHECK.is("undo", h.undo(), 5);
        CHECK.is("undo", h.undo(), 4);
        CHECK.is("position after undo", h.errorPosition(), 18);
        CHECK.holds("restoreSnapshot", h.restoreSnapshot());
        CHECK.is("position after the snapshot", h.errorPosition(), 18);
        CHECK.is("load", Check.load(h, CELL), 1);
        CHECK.is("position of a good text", h.errorPosition(), -1);
    }

    /** What was tried out, or read up to an error, leaves nothing in the next network. */
    private static void loadAfterTrials() {
        String network = "cell 0 0 60 10 1 0 0 0;cell 100 0 60 10 1 0 0 0;relation 0 1 0;relation 1 0 0;relation 0 1 9";
        String good = network.substring(0, network.lastIndexOf("relation")) + "settings 1 1 5 4 5 3;";
        CellHandover h = Check.loaded(good);
        h.addMobile(50, 0, 5, 0);
        h.addMobile(999, 999, 0, 0);
        h.call(0, 50);
        CHECK.is("forecast", h.forecastCell(0, 60), -1);
        CHECK.is("forecast", h.forecastCell(0, 9), 1);
        CHECK.is("an error", Check.load(h, network), -14);
        CHECK.is("a mobile", h.mobileCount(), 2);
        CHECK.is("forecast", h.forecastCell(0, 9), 1);
        CHECK.is("load", Check.load(h, good), 2);
        CHECK.is("relationCount", h.relationCount(), 2);
        CHECK.is("mobileCount", h.mobileCount(), 0);
        CHECK.is("clock", h.clock(), 0);
        for (int what = 0; what < 8; what++) {
            CHECK.is("total", h.total(what), 0);
        }
        for (int cell = 0; cell < 2; cell++) {
            CHECK.is("congested", h.congestedTicks(cell), 0);
            CHECK.is("busy", h.busyChannels(cell), 0);
            CHECK.is("successes", h.successes(cell, 1 - cell), 0);
            CHECK.is("refusals", h.refusals(cell, 1 - cell), 0);
        }
        h.addMobile(50, 0, 5, 0);
        h.addMobile(50, 0, 5, 0);
        h.call(0, 50);
        h.call(1, 50);
        h.run(2);
        CHECK.is("refusals", h.refusals(0, 1), 2);
        CHECK.is("load again", Check.load(h, good), 2);
        CHECK.is("refusals", h.refusals(0, 1), 0);
        h.addMobile(50, 0, 5, 0);
        h.addMobile(50, 0, 5, 0);
        h.call(0, 50);
        h.call(1, 50);
        h.forecastCell(0, 2);
        CHECK.is("load again", Check.load(h, good), 2);
        CHECK.is("refusals of the forecast", h.refusals(0, 1), 0);
    }

    /** Mobiles of the network before, talking or waiting, have no part in the next one. */
    private static void forgottenMobiles() {
        String network = "cell 0 0 60 10 1 6 0 99;cell 100 0 60 10 1 0 0 0;relation 0 1 0;settings 1 1 5 4 60 9;";
        for (int tried = 0; tried < 3; tried++) {
            CellHandover h = Check.loaded(network);
            h.addMobile(0, 0, 90, 0);
            h.addMobile(0, 0, 0, 0);
            h.addMobile(0, 0, 0, 0);
            // Mobile 0 talks, waits or is idle, as the one that calls first, last or not at all.
            for (int i = tried; i < 3; i++) {
                h.call(i, 9);
            }
            if (tried == 1) {
                CHECK.is("waits", h.call(0, 3), -3);
            }
            h.forecastCell(0, 1);
            CHECK.is("load", Check.load(h, network), 2);
            CHECK.is("queue", h.queueLength(0), 0);
            CHECK.is("queued", h.queued(0, 0), -1);
            CHECK.is("all mobiles", Check.ask(h, "many 1=1"), 0);
            CHECK.is("all mobiles", Check.ask(h, "first not 1=2"), -1);
            CHECK.is("run", h.run(20), 0);
            h.addMobile(0, 0, 0, 0);
            CHECK.is("queue", h.queueLength(0), 0);
            CHECK.is("call", h.call(0, 2), 0);
            CHECK.is("all mobiles", Check.ask(h, "many 1=1"), 1);
            CHECK.is("run", h.run(1), 0);
            CHECK.is("congested", h.congestedTicks(0), 1);
            CHECK.is("congested", h.congestedTicks(1), 0);
            h.hangUp(0);
            CHECK.is("run", h.run(20), 0);
            for (int what = 0; what < 8; what++) {
                CHECK.is("total " + what, h.total(what), 0);
            }
            CHECK.is("successes", h.successes(0, 1), 0);
            CHECK.is("refusals", h.refusals(0, 1), 0);
        }
    }

    /** A request of the network before would come before the one that is made now. */
    private static void forgottenRequest() {
        CellHandover h = Check.loaded("cell 0 0 60 10 1 6 0 0;");
        for (int i = 0; i < 3; i++) {
            h.addMobile(0, 0, 0, 0);
            h.call(i, 9);
        }
        CHECK.is("waits", h.requestCell(2), 0);
        h.forecastCell(0, 0);
        CHECK.is("load", Check.load(h, "cell 0 0 60 10 1 6 0 0;"), 1);
        h.addMobile(0, 0, 0, 0);
        h.addMobile(0, 0, 0, 0);
        h.run(1);
        CHECK.is("talks", h.call(0, 9), 0);
        CHECK.is("waits", h.call(1, 9), -3);
        CHECK.is("queued", h.queued(0, 0), 1);
        CHECK.is("queued", h.queued(0, 1), -1);
    }

    private static void hystereses() {
        CellHandover h = Check.loaded(TWO + CELL + "relation 0 1 3;relation 1 0 0;relation 2 0 30;");
        CHECK.is("cells", h.cellCount(), 3);
        CHECK.is("relations", h.relationCount(), 3);
        CHECK.is("0 1", h.hysteresis(0, 1), 3);
        CHECK.is("1 0", h.hysteresis(1, 0), 0);
        CHECK.is("2 0", h.hysteresis(2, 0), 30);
        CHECK.is("0 2", h.hysteresis(0, 2), -1);
        CHECK.is("0 0", h.hysteresis(0, 0), -1);
        CHECK.noSuch("-1 0", () -> h.hysteresis(-1, 0));
        CHECK.noSuch("0 -1", () -> h.hysteresis(0, -1));
        CHECK.noSuch("3 0", () -> h.hysteresis(3, 0));
        CHECK.noSuch("0 3", () -> h.hysteresis(0, 3));
        CHECK.noSuch("max", () -> h.hysteresis(Integer.MAX_VALUE, Integer.MIN_VALUE));
    }
}
