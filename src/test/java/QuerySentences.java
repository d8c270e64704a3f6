/** The sentences about queries: of "Input text", and promise 43. */
final class QuerySentences {
    private static final String TEXT = "Input text";
    private static final String AT = "Promise 43";
    private static final int HIDDEN = -1000000000;

    private QuerySentences() {
    }

    /** Idle mobiles, mobile i standing at (i, 10 * i). */
    private static CellHandover idle(int mobiles) {
        CellHandover h = new CellHandover();
        for (int i = 0; i < mobiles; i++) {
            h.addMobile(i, 10 * i, 0, 0);
        }
        return h;
    }

    /** Mobile 0 is idle, 1 talks in cell 1, 2 in cell 0, from where it waits for a handover, and 3 waits for a set-up. */
    private static CellHandover busy() {
        CellHandover h = Nets.with(Nets.cell(40, 1, 1, 0, 99), Nets.cell(50, 1, 6, 0, 0), "relation 1 0 0;relation 0 1 0;",
                Nets.settings(4, 2, 5, 30, 0, 3));
        h.addMobile(7, 999, 0, 0);
        Nets.callers(h, 3);
        h.run(3);
        return h;
    }

    @Says(at = TEXT, value = "query: ('many' | 'first') test")
    @Break({"int readQuery()", "!many && !text.is(\"first\")", "!many && text.is(\"cell\")"})
    @Break({"int readQuery()", "if (text.goesOn())", "if (false)"})
    static void queries(Check c) {
        CellHandover h = idle(3);
        Nets.ask(c, h, "many mobile>0", 2);
        Nets.ask(c, h, "first mobile>0", 1);
        Nets.ask(c, h, "^", HIDDEN - 1);
        Nets.ask(c, h, "^mobile>0", HIDDEN - 1);
        Nets.ask(c, h, "^all mobile>0", HIDDEN - 1);
        Nets.ask(c, h, "many^", HIDDEN - 1);
        Nets.ask(c, h, "many ^first mobile>0", HIDDEN - 1);
        Nets.ask(c, h, "many mobile>0^;", HIDDEN - 1);
        Nets.ask(c, h, "many mobile>0 ^mobile>0", HIDDEN - 1);
        Nets.ask(c, h, "many mobile>0 ^many", HIDDEN - 1);
    }

    @Says(at = TEXT, value = {"test: conjunction ('or' conjunction)*.", "conjunction: factor ('and' factor)*."})
    @Break({"private int test(", "ends ? anyHolds | allHold : anyHolds", "anyHolds | allHold"})
    @Break({"private int test(", "ends ? holds : allHold & holds", "allHold & holds"})
    @Break({"private int test(", "ends ? holds : allHold & holds", "ends ? holds : holds"})
    @Break({"private int test(", "return anyHolds | allHold", "return allHold"})
    @Break({"private int test(", "i < MAX_QUERY", "i < 1"})
    static void tests(Check c) {
        CellHandover h = idle(5);
        Nets.ask(c, h, "many mobile=1", 1);
        Nets.ask(c, h, "many mobile=1 or mobile=3", 2);
        Nets.ask(c, h, "many mobile=1 or mobile=1", 1);
        Nets.ask(c, h, "many mobile>1 and mobile<4", 2);
        Nets.ask(c, h, "many mobile>1 and mobile<4 and mobile=2", 1);
        Nets.ask(c, h, "many mobile=0 or mobile=1 or mobile=4", 3);
        Nets.ask(c, h, "many mobile=0 or mobile=1 and mobile=2", 1);
        Nets.ask(c, h, "many mobile=1 and mobile=2 or mobile=0", 1);
        Nets.ask(c, h, "many mobile=3 or mobile=1 and mobile=1 or mobile=0 and mobile=2", 2);
        Nets.ask(c, h, "many ^or mobile=1", HIDDEN - 1);
        Nets.ask(c, h, "many ^and mobile=1", HIDDEN - 1);
        Nets.ask(c, h, "many mobile=1 or^", HIDDEN - 1);
        Nets.ask(c, h, "many mobile=1 and^", HIDDEN - 1);
        Nets.ask(c, h, "many mobile=1 or ^and mobile=1", HIDDEN - 1);
        Nets.ask(c, h, "many mobile=1 and ^or mobile=1", HIDDEN - 1);
        // The longest query has 25 terms of 8 bytes.
        StringBuilder longest = new StringBuilder("many 1=1");
        while (longest.length() < 192) {
            longest.append("and 1=1 ");
        }
        Nets.ask(c, h, longest.append("and 1=2 ").toString(), 0);
        c.is("its length", longest.length(), 200);
    }

    @Says(at = TEXT, value = "factor: 'not' factor | '(' test ')' | value ('<' | '=' | '>') value.")
    @Break({"private int factor(", "everyMobile() & ~factor(open + 1)", "everyMobile() & ~test(open + 1)"})
    @Break({"private int factor(", "everyMobile() & ~factor(open + 1)", "~factor(open + 1)"})
    @Break({"private int factor(", "text.expect(\")\");", ""})
    @Break({"private int comparison()", "less ? a < b", "less ? a <= b"})
    @Break({"private int comparison()", "a == b : a > b", "a == b : a >= b"})
    static void factors(Check c) {
        CellHandover h = idle(5);
        Nets.ask(c, h, "many not mobile=1", 4);
        Nets.ask(c, h, "many not not mobile=1", 1);
        Nets.ask(c, h, "many not mobile=1 and mobile<3", 2);
        Nets.ask(c, h, "many not mobile=1 or mobile=1", 5);
        Nets.ask(c, h, "many not (mobile=1 or mobile=2)", 3);
        Nets.ask(c, h, "many (mobile=1 or mobile=2) and mobile<2", 1);
        Nets.ask(c, h, "many (mobile=1)", 1);
        Nets.ask(c, h, "many mobile<2", 2);
        Nets.ask(c, h, "many mobile=2", 1);
        Nets.ask(c, h, "many mobile>2", 2);
        Nets.ask(c, h, "many 2<mobile", 2);
        Nets.ask(c, h, "many 2=2", 5);
        Nets.ask(c, h, "many 2<2", 0);
        Nets.ask(c, h, "many not^", HIDDEN - 1);
        Nets.ask(c, h, "many not ^and mobile=1", HIDDEN - 1);
        Nets.ask(c, h, "many (^)", HIDDEN - 1);
        Nets.ask(c, h, "many (mobile=1^", HIDDEN - 1);
        Nets.ask(c, h, "many mobile=1^)", HIDDEN - 1);
        Nets.ask(c, h, "many (mobile^)=1", HIDDEN - 1);
        Nets.ask(c, h, "many mobile^", HIDDEN - 1);
        Nets.ask(c, h, "many mobile=^", HIDDEN - 1);
        Nets.ask(c, h, "many mobile^!1", HIDDEN - 1);
        Nets.ask(c, h, "many mobile<^=1", HIDDEN - 1);
        Nets.ask(c, h, "many 1<mobile^<3", HIDDEN - 1);
    }

    @Says(at = TEXT, value = "value: a number from 0 to 9999,")
    @Break({"", "MAX_NUMBER = 9999", "MAX_NUMBER = 9998"})
    @Break({"", "MAX_NUMBER = 9999", "MAX_NUMBER = 10000"})
    @Break({"private int seeValue()", "text.seeNumber(0, MAX_NUMBER)", "text.seeNumber(1, MAX_NUMBER)"})
    static void numbers(Check c) {
        CellHandover h = idle(2);
        Nets.ask(c, h, "many 0=0", 2);
        Nets.ask(c, h, "many x=0", 1);
        Nets.ask(c, h, "many 9999>9998", 2);
        Nets.ask(c, h, "many x<9999", 2);
        Nets.ask(c, h, "many x<^10000", HIDDEN - 2);
        Nets.ask(c, h, "many ^10000>x", HIDDEN - 2);
        Nets.ask(c, h, "many x=000000", 1);
        Nets.ask(c, h, "many x<0009999", 2);
        Nets.ask(c, h, "many x=^4294967296", HIDDEN - 2);
        Nets.ask(c, h, "many x=^-1", HIDDEN - 1);
    }

    @Says(at = TEXT, value = "or one of these properties of a mobile: 'mobile' (its number), 'x', 'y', 'state',")
    @Break({"private int valueFor(", "case 0: return number", "case 0: return number + 1"})
    @Break({"private int valueFor(", "case 1: return mobile.x", "case 1: return mobile.y"})
    @Break({"private int valueFor(", "case 2: return mobile.y", "case 2: return mobile.x"})
    @Break({"private int valueFor(", "case 3: return mobile.state", "case 3: return mobile.state == 0 ? 0 : 1"})
    static void properties(Check c) {
        CellHandover h = idle(12);
        Nets.ask(c, h, "first mobile=0", 0);
        Nets.ask(c, h, "first mobile=11", 11);
        Nets.ask(c, h, "many mobile=12", 0);
        Nets.ask(c, h, "first x=11", 11);
        Nets.ask(c, h, "first y=110", 11);
        Nets.ask(c, h, "many x=y", 1);
        Nets.ask(c, h, "many x<y", 11);
        CellHandover g = busy();
        Nets.ask(c, g, "first x=7 and y=999", 0);
        Nets.ask(c, g, "many state=0", 1);
        Nets.ask(c, g, "many state=1", 2);
        Nets.ask(c, g, "first state=2", 3);
        Nets.ask(c, g, "many ^speed=0", HIDDEN - 1);
        Nets.ask(c, g, "many ^mobiles=0", HIDDEN - 1);
        Nets.ask(c, g, "many ^mobil=0", HIDDEN - 1);
        Nets.ask(c, g, "many ^xx=0", HIDDEN - 1);
    }

    @Says(at = TEXT, value = "'cell' (9 if it has no serving cell),")
    @Break({"", "NO_CELL = 9", "NO_CELL = 8"})
    static void cellProperty(Check c) {
        CellHandover h = busy();
        Nets.ask(c, h, "first cell=1", 1);
        Nets.ask(c, h, "first cell=0", 2);
        Nets.ask(c, h, "many cell=9", 2);
        Nets.ask(c, h, "first cell=9", 0);
        Nets.ask(c, h, "many cell=9 and state=2", 1);
        Nets.ask(c, h, "many cell<9", 2);
    }

    @Says(at = TEXT, value = "'left' (remaining duration, 0 if it does not talk),")
    @Break({"private int valueFor(", "mobile.state == TALKING ? mobile.remaining : 0", "mobile.remaining"})
    static void leftProperty(Check c) {
        CellHandover h = busy();
        c.is("one that waits has a remaining duration", h.remaining(3), 500);
        Nets.ask(c, h, "many left=0", 2);
        Nets.ask(c, h, "many left=497", 2);
        Nets.ask(c, h, "many left=500", 0);
        Nets.ask(c, h, "many left=0 and state=2", 1);
    }

    @Says(at = TEXT, value = "'reports' (number of reports of the serving cell, 0 if it does not talk),")
    @Break({"private int valueFor(", "mobile.reportsOf(mobile.serving)", "mobile.reportsOf(0)"})
    @Break({"int reportsOf(int cell)", "? reportCounts[cell] : 0", "? reportCounts[cell] : 1"})
    static void reportsProperty(Check c) {
        CellHandover h = Nets.with(Nets.cell(40, 1, 6, 0, 0), Nets.cell(50, 1, 6, 0, 0), "relation 1 0 30;relation 0 1 30;");
        Nets.caller(h, 0, 0);
        h.run(2);
        Nets.callers(h, 2);
        h.addMobile(0, 0, 0, 0);
        Nets.ask(c, h, "many reports=0", 3);
        Nets.ask(c, h, "first reports=2", 0);
        h.run(1);
        Nets.ask(c, h, "first reports=3", 0);
        Nets.ask(c, h, "first reports=1", 1);
        Nets.ask(c, h, "many reports=0", 2);
        Nets.ask(c, h, "many reports=0 and state=2", 1);
        h.run(9);
        Nets.ask(c, h, "many reports=4", 2);
        CellHandover g = Nets.with(Nets.cell(40, 1, 6, 0, 0), Nets.cell(50, 1, 6, 0, 0));
        Nets.caller(g, 0, 0);
        g.run(1);
        Nets.ask(c, g, "first reports=1", 0);
    }

    @Says(at = TEXT, value = "'waits' (1 if it has a request, else 0).")
    @Break({"private int valueFor(", "mobile.requestCell == NONE ? 0 : 1", "mobile.state == WAITING ? 1 : 0"})
    @Break({"private int valueFor(", "mobile.requestCell == NONE ? 0 : 1", "mobile.requestCell > 0 ? 1 : 0"})
    static void waitsProperty(Check c) {
        CellHandover h = busy();
        Nets.ask(c, h, "many waits=0", 2);
        Nets.ask(c, h, "many waits=1", 2);
        Nets.ask(c, h, "first waits=1", 2);
        Nets.ask(c, h, "many waits>1", 0);
        CellHandover g = Nets.with(Nets.cell(60, 1, 1, 0, 0));
        Nets.callers(g, 2);
        Nets.ask(c, g, "first waits=1", 1);
    }

    @Says(at = TEXT, value = "in a query a 'not' or '(' that would be the seventh one open at the same time.")
    @Break({"", "MAX_OPEN = 6", "MAX_OPEN = 5"})
    @Break({"", "MAX_OPEN = 6", "MAX_OPEN = 7"})
    @Break({"private int factor(", "~factor(open + 1)", "~factor(open)"})
    @Break({"private int factor(", "test(open + 1)", "test(open)"})
    @Break({"private int factor(", "text.fail(TOO_MANY)", "text.fail(NOT_ALLOWED)"})
    static void seventhOpen(Check c) {
        CellHandover h = idle(5);
        Nets.ask(c, h, "many not not not not not not mobile=1", 1);
        Nets.ask(c, h, "many not not not not not not ^not mobile=1", HIDDEN - 3);
        Nets.ask(c, h, "many not not not not not not ^(mobile=1)", HIDDEN - 3);
        Nets.ask(c, h, "many ((((((mobile=1))))))", 1);
        Nets.ask(c, h, "many ((((((^(mobile=1)))))))", HIDDEN - 3);
        Nets.ask(c, h, "many ((((((^not mobile=1))))))", HIDDEN - 3);
        Nets.ask(c, h, "many (not(not(not mobile=1)))", 4);
        Nets.ask(c, h, "many not(not(not(mobile=1)))", 4);
        Nets.ask(c, h, "many (not(not(not ^not mobile=1)))", HIDDEN - 3);
        Nets.ask(c, h, "many not(not(not(^(mobile=1))))", HIDDEN - 3);
        Nets.ask(c, h, "many ((((((^not", HIDDEN - 3);
        Nets.ask(c, h, "many ((((((^", HIDDEN - 1);
    }

    @Says(at = TEXT, value = "A 'not' is open until the end of its factor.")
    @Break({"private int test(", "int holds = factor(open)", "int holds = factor(open + 1)"})
    static void endOfANot(Check c) {
        CellHandover h = idle(5);
        Nets.ask(c, h, "many not mobile=0 and not mobile=1 and not mobile=2 and not mobile=3 and not mobile=4 and not 1=2 "
                + "and not 1=2", 0);
        Nets.ask(c, h, "many not not not not not not mobile=1 and not not not not not not mobile=1", 1);
        Nets.ask(c, h, "many not not not not not not mobile=1 or ((((((mobile=2))))))", 2);
        Nets.ask(c, h, "many ((((((mobile=2)))))) or not not not not not not mobile=1", 2);
        Nets.ask(c, h, "many (((not not not mobile=1) and (not not not mobile=2)))", 3);
        Nets.ask(c, h, "many (((not not not mobile=1 and not not not mobile=2)))", 3);
        Nets.ask(c, h, "many (((not not not mobile=1 and not not not ^(mobile=2))))", HIDDEN - 3);
        Nets.ask(c, h, "many not (not (not (mobile=1 and ^not mobile=2)))", HIDDEN - 3);
    }

    @Says(at = AT, value = {"Reads the first bytes of the buffer as a query and evaluates it for every mobile in ascending "
        + "order.", "- `length`: number of bytes to read, at most 200"})
    @Break({"", "MAX_QUERY = 200", "MAX_QUERY = 199"})
    @Break({"", "MAX_QUERY = 200", "MAX_QUERY = 201"})
    @Break({"private int comparison()", "i < network.mobileCount", "i < network.mobileCount - 1"})
    @Break({"private int comparison()", "int i = 0; i < network", "int i = 1; i < network"})
    static void lengths(Check c) {
        CellHandover h = idle(12);
        Nets.ask(c, h, "many 1=1", 12);
        StringBuilder text = new StringBuilder("many mobile=1");
        while (text.length() < 240) {
            text.append(' ');
        }
        text.setCharAt(199, ';');
        Check.feed(h, text.toString());
        c.illegal("201", () -> h.query(201));
        c.is("200", h.query(200), HIDDEN - 1);
        c.is("the last byte is read", h.errorPosition(), 199);
        Check.feed(h, text.toString());
        c.is("199", h.query(199), 1);
        Check.feed(h, "many x=10 or x=11");
        c.is("the first bytes only", h.query(8), 1);
        Check.feed(h, "many x=10 or x=11");
        c.is("0 bytes", h.query(0), HIDDEN - 1);
        c.is("its position", h.errorPosition(), 0);
    }

    @Says(at = AT, value = "The buffer is empty afterwards, also after an error.")
    @Break({"void close()", "fed = 0;", "fed = error == 0 ? 0 : fed;"})
    @Break({"void close()", "fed = 0;", "fed = error != 0 ? 0 : fed;"})
    static void emptyBuffer(Check c) {
        CellHandover h = idle(2);
        Check.feed(h, "many x=1; and more than 20 bytes");
        c.is("a good query", h.query(8), 1);
        c.illegal("nothing is left", () -> h.query(1));
        c.illegal("nothing is left", () -> h.load(1));
        c.is("feed", h.feed(0, 0, 0, 0, 0), 20);
        c.is("a bad query", h.query(20), HIDDEN - 1);
        c.illegal("nothing is left", () -> h.query(1));
        c.is("feed", h.feed(0, 0, 0, 0, 0), 20);
        c.is("a bad query of nothing", h.query(0), HIDDEN - 1);
        c.is("feed", h.feed(0, 0, 0, 0, 0), 20);
    }

    @Says(at = AT, value = "Returns for 'many' the number of mobiles for which the test holds;")
    @Break({"int readQuery()", "Integer.bitCount(holds)", "Integer.bitCount(holds & 2047)"})
    @Break({"int readQuery()", "Integer.bitCount(holds)", "holds"})
    static void many(Check c) {
        for (int mobiles = 0; mobiles <= 12; mobiles++) {
            CellHandover h = idle(mobiles);
            Nets.ask(c, h, "many 1=1", mobiles);
            Nets.ask(c, h, "many not 1=2", mobiles);
            Nets.ask(c, h, "many 1=2", 0);
            Nets.ask(c, h, "many mobile>2", Math.max(0, mobiles - 3));
        }
    }

    @Says(at = AT, value = "for 'first' the smallest such mobile, or NONE;")
    @Break({"private int firstOf(", "i < network.mobileCount", "i < network.mobileCount - 1"})
    @Break({"private int firstOf(", "(holds & (1 << i)) != 0", "(holds >> i) == 1"})
    @Break({"private int firstOf(", "return NONE", "return network.mobileCount"})
    static void first(Check c) {
        for (int mobiles = 0; mobiles <= 12; mobiles++) {
            CellHandover h = idle(mobiles);
            Nets.ask(c, h, "first 1=1", mobiles > 0 ? 0 : -1);
            Nets.ask(c, h, "first not 1=2", mobiles > 0 ? 0 : -1);
            Nets.ask(c, h, "first 1=2", -1);
            Nets.ask(c, h, "first mobile>2", mobiles > 3 ? 3 : -1);
            Nets.ask(c, h, "first mobile=11 or mobile=9", mobiles > 9 ? 9 : -1);
            Nets.ask(c, h, "first mobile=11", mobiles > 11 ? 11 : -1);
        }
    }

    @Says(at = AT, value = "HIDDEN minus the error code if the text has an error.")
    @Break({"public int query(", "HIDDEN - text.error", "HIDDEN + text.error"})
    @Break({"public int query(", "text.error != 0 ? HIDDEN - text.error : answer", "answer"})
    static void errors(Check c) {
        CellHandover h = idle(3);
        Nets.ask(c, h, "many ^foo=1", -1000000001);
        Nets.ask(c, h, "many x=^10000", -1000000002);
        Nets.ask(c, h, "many ((((((^(x=1", -1000000003);
        Nets.ask(c, h, "first ^foo=1", -1000000001);
        Nets.ask(c, h, "many x=1 ^many", -1000000001);
    }

    @Says(at = AT, value = "Throws `IllegalArgumentException` if length is negative, greater than 200, or greater than the "
            + "number of bytes in the buffer (nothing changes)")
    @Break({"public int query(", "requireRange(length, 0, Math.min(text.fed, MAX_QUERY))",
            "requireRange(length, 0, MAX_QUERY)"})
    @Break({"public int query(", "requireRange(length, 0, Math.min(text.fed, MAX_QUERY))",
            "requireRange(length, 0, text.fed)"})
    @Break({"public int query(", "requireRange(length, 0, Math.min(text.fed, MAX_QUERY))",
            "requireRange(length, -1, Math.min(text.fed, MAX_QUERY))"})
    @Break({"public int query(", "requireRange(length, 0, Math.min(text.fed, MAX_QUERY))",
            "requireRange(length, 0, Math.min(text.fed + 1, MAX_QUERY))"})
    @Break({"public int query(", "requireRange(length, 0, Math.min(text.fed, MAX_QUERY))",
            "requireRange(length, 0, Math.min(text.fed - 1, MAX_QUERY))"})
    @Break({"public int query(", "requireRange(length",
            "if (length > text.fed || length > MAX_QUERY) { text.fed = 0; } requireRange(length"})
    @Break({"public int query(", "requireRange(length", "text.errorAt = NONE; requireRange(length"})
    static void wrongLengths(Check c) {
        CellHandover h = idle(2);
        Nets.ask(c, h, "many ^foo=1", HIDDEN - 1);
        String before = Check.picture(h);
        c.illegal("1 of nothing", () -> h.query(1));
        c.is("20", Check.feed(h, "many x=1 or x=0     "), 20);
        c.illegal("-1", () -> h.query(-1));
        c.illegal("the least int", () -> h.query(Integer.MIN_VALUE));
        c.illegal("21 of 20", () -> h.query(21));
        c.illegal("200 of 20", () -> h.query(200));
        for (int i = 0; i < 10; i++) {
            h.feed(0x20202020, 0x20202020, 0x20202020, 0x20202020, 0x20202020);
        }
        c.illegal("201 of 220", () -> h.query(201));
        c.illegal("220 of 220", () -> h.query(220));
        c.illegal("the greatest int", () -> h.query(Integer.MAX_VALUE));
        c.holds("nothing changes", before.equals(Check.picture(h)));
        c.is("the buffer is kept", h.query(20), 2);
        c.is("20", Check.feed(h, "many x=1 or x=0     "), 20);
        c.is("20 of 20", h.query(20), 2);
    }
}
