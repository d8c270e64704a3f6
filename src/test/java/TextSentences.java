/** The sentences of "Input text", but for those about queries. */
final class TextSentences {
    private static final String AT = "Input text";
    private static final String CELL = "cell 0 0 60 10 1 1 10 20;";
    private static final String TWO = CELL + CELL;

    private TextSentences() {
    }

    @Says(at = AT, value = "The text comes from a byte buffer. Tokens: a word is a maximal run of the letters 'a' to 'z';")
    @Break({"private static int kindOf", "found >= 'a'", "found > 'a'"})
    @Break({"private static int kindOf", "found >= 'a'", "found >= 'a' - 1"})
    @Break({"private static int kindOf", "found <= 'z'", "found < 'z'"})
    @Break({"private static int kindOf", "found <= 'z'", "found <= 'z' + 1"})
    @Break({"boolean is(", "next - start != token.length()", "next - start < token.length()"})
    static void words(Check c) {
        Nets.text(c, CELL, 1);
        Nets.text(c, "^cells 0 0 60 10 1 1 10 20;", -11);
        Nets.text(c, "^cel 0 0 60 10 1 1 10 20;", -11);
        Nets.text(c, "^acell 0 0 60 10 1 1 10 20;", -11);
        Nets.text(c, "^cella 0 0 60 10 1 1 10 20;", -11);
        Nets.text(c, "^cellz 0 0 60 10 1 1 10 20;", -11);
        Nets.text(c, "^cellcell 0 0 60 10 1 1 10 20;", -11);
        Nets.text(c, "cell^` 0 0 60 10 1 1 10 20;", -11);
        Nets.text(c, "cell^{ 0 0 60 10 1 1 10 20;", -11);
        Nets.text(c, "cell^A 0 0 60 10 1 1 10 20;", -11);
        Nets.text(c, "cell^Z 0 0 60 10 1 1 10 20;", -11);
        Nets.text(c, "^Cell 0 0 60 10 1 1 10 20;", -11);
    }

    @Says(at = AT, value = "a number is a maximal run of decimal digits (leading zeros are allowed);")
    @Break({"private static int kindOf", "found >= '0'", "found > '0'"})
    @Break({"private static int kindOf", "found >= '0'", "found >= '/'"})
    @Break({"private static int kindOf", "found <= '9'", "found < '9'"})
    @Break({"private static int kindOf", "found <= '9'", "found <= ':'"})
    @Break({"int seeNumber", "number < MAX_CLOCK", "at < start + 6"})
    @Break({"int seeNumber", "if (number < MAX_CLOCK) {", "if (true) {"})
    static void numbers(Check c) {
        CellHandover h = Check.loaded("cell900 90 60 10 1 1 10 20;");
        c.is("a word ends where a number begins", h.level(0, 900, 90), 60);
        Nets.text(c, CELL + "cell 0 0 60 10 1 1 10 20;relation 0 1 5;settings4 2 5 4 5 3;", 2);
        Nets.text(c, "cell 0000 0000000000000000000000000999 060 10 01 01 010 00020;", 1);
        Nets.text(c, "cell 0 ^00000000000000000000000001000 060 10 01 01 010 00020;", -12);
        Nets.text(c, "cell 0^/0 60 10 1 1 10 20;", -11);
        Nets.text(c, "cell 0^:0 60 10 1 1 10 20;", -11);
        Nets.text(c, "cell 0^.0 60 10 1 1 10 20;", -11);
        Nets.text(c, "cell 0^-0 60 10 1 1 10 20;", -11);
        Nets.text(c, "cell 0^+0 60 10 1 1 10 20;", -11);
        Nets.text(c, "cell 0^x0 60 10 1 1 10 20;", -11);
        // These would be 0 if they were kept in an int or in a long.
        Nets.text(c, "cell ^4294967296 0 60 10 1 1 10 20;", -12);
        Nets.text(c, "cell ^18446744073709551616 0 60 10 1 1 10 20;", -12);
    }

    @Says(at = AT, value = "every other byte except space (32) and line feed (10) is a token by itself.")
    @Break({"private static int kindOf", "found == ' ' || found == '\\n'", "found <= ' '"})
    @Break({"private static int kindOf", "found == ' ' || found == '\\n'", "found == ' ' || found == '\\n' || found == '\\t'"})
    @Break({"private static int kindOf", "found == ' ' || found == '\\n'", "found == ' ' || found == '\\n' || found > 126"})
    @Break({"void append(int word)", "& 255", "& 127"})
    @Break({"void advance()", "if (kind == LETTER || kind == DIGIT)", "if (kind == SIGN || kind == LETTER || kind == DIGIT)"})
    static void signs(Check c) {
        for (int sign = 0; sign < 256; sign++) {
            boolean blank = sign == 32 || sign == 10;
            boolean inWord = sign >= 'a' && sign <= 'z' || sign >= '0' && sign <= '9';
            if (!inWord) {
                CellHandover h = new CellHandover();
                c.is("the byte " + sign, Check.load(h, (char) sign + CELL), blank ? 1 : -11);
                c.is("its place", h.errorPosition(), blank ? -1 : 0);
                CellHandover g = new CellHandover();
                c.is("the byte " + sign, Check.load(g, CELL + (char) sign), blank ? 1 : -11);
                c.is("its place", g.errorPosition(), blank ? -1 : CELL.length());
            }
        }
        Nets.text(c, CELL + "^;;", -11);
        CellHandover h = new CellHandover();
        h.addMobile(0, 0, 0, 0);
        Nets.ask(c, h, "many((x=1))", 0);
        Nets.ask(c, h, "many x=^=1", -1000000001);
    }

    @Says(at = AT, value = "Spaces and line feeds may appear between tokens.")
    @Break({"private static int kindOf", "found == ' ' || found == '\\n'", "found == ' '"})
    @Break({"private static int kindOf", "found == ' ' || found == '\\n'", "found == '\\n'"})
    @Break({"void advance()", "while (start < end && kindOf(byteAt(start)) == BLANK)",
            "if (start < end && kindOf(byteAt(start)) == BLANK)"})
    static void blanks(Check c) {
        Nets.text(c, " \n \n cell  0\n0 \n60 10 1 1 10\n\n20 ; \n ", 1);
        Nets.text(c, "cell\n0 0\n60 10\n1 1\n10 20\n;\n", 1);
        Nets.text(c, "^ce ll 0 0 60 10 1 1 10 20;", -11);
        Nets.text(c, "cell 0 0 6 ^0 10 1 1 10 20;", -12);
    }

    @Says(at = AT, value = "network: (clause ';')*")
    @Break({"void readNetwork()", "text.goesOn()", "text.goesOn() && network.cellCount < 1"})
    @Break({"void readNetwork()", "text.expect(\";\")", "if (text.goesOn()) { text.expect(\";\"); }"})
    @Break({"void readNetwork()", "clauses < MAX_BYTES && text.goesOn()", "clauses < 1 || text.goesOn()"})
    static void network(Check c) {
        Nets.text(c, "", 0);
        Nets.text(c, " ", 0);
        Nets.text(c, "\n \n", 0);
        Nets.text(c, CELL, 1);
        Nets.text(c, CELL + "settings 4 2 5 4 5 3;" + CELL + "relation 0 1 3;" + CELL, 3);
        Nets.text(c, "cell 0 0 60 10 1 1 10 20^", -11);
        Nets.text(c, "cell 0 0 60 10 1 1 10 20 ^cell 0 0 60 10 1 1 10 20;", -11);
        Nets.text(c, "^;" + CELL, -11);
        Nets.text(c, CELL + "^;", -11);
        Nets.text(c, CELL + "^many", -11);
    }

    @Says(at = AT, value = "clause: 'cell' x (0 to 999) y (0 to 999) power (1 to 99) slope (1 to 50) channels (1 to 8) "
            + "queue capacity (0 to 6) access level (0 to 99) low level (0 to 99)")
    @Break({"void readCell()", "cell.x = text.takeNumber(0, MAX_COORDINATE)", "cell.x = text.takeNumber(1, MAX_COORDINATE)"})
    @Break({"void readCell()", "cell.x = text.takeNumber(0, MAX_COORDINATE)", "cell.x = text.takeNumber(0, 1000)"})
    @Break({"void readCell()", "cell.y = text.takeNumber(0, MAX_COORDINATE)", "cell.y = text.takeNumber(1, MAX_COORDINATE)"})
    @Break({"void readCell()", "cell.y = text.takeNumber(0, MAX_COORDINATE)", "cell.y = text.takeNumber(0, 1000)"})
    @Break({"void readCell()", "accessLevel = text.takeNumber(0, 99);\n            cell.lowLevel",
            "lowLevel = text.takeNumber(0, 99);\n            cell.accessLevel"})
    static void cellClause(Check c) {
        int[] low = {0, 0, 1, 1, 1, 0, 0, 0};
        int[] high = {999, 999, 99, 50, 8, 6, 99, 99};
        ranges(c, "cell", low, high, 1);
        CellHandover h = Check.loaded("cell 300 400 99 50 1 6 98 99;");
        c.is("x, y and power", h.level(0, 300, 400), 99);
        c.is("slope", h.level(0, 300, 402), 98);
        c.is("access level", h.strongestCell(300, 402), 0);
        c.is("access level", h.strongestCell(300, 403), 0);
        c.is("access level", h.strongestCell(300, 404), -1);
    }

    @Says(at = AT, value = "'settings' window (1 to 8) minimum reports (1 to window) ping-pong time (0 to 50) queue time "
            + "(1 to 30) drop level (0 to 99) drop time (1 to 20)")
    @Break({"void readSettings()", "takeNumber(1, network.window)", "takeNumber(1, MAX_WINDOW)"})
    @Break({"void readSettings()", "network.dropLevel = text.takeNumber(0, 99)", "network.dropLevel = text.takeNumber(1, 99)"})
    static void settingsClause(Check c) {
        int[] low = {1, 1, 0, 1, 0, 1};
        int[] high = {8, 1, 50, 30, 99, 20};
        ranges(c, "settings", low, high, 0);
        for (int window = 1; window <= 8; window++) {
            Nets.text(c, "settings " + window + " " + window + " 5 4 5 3;", 0);
            Nets.text(c, "settings " + window + " ^" + (window + 1) + " 5 4 5 3;", -12);
            Nets.text(c, "settings " + window + " ^0 5 4 5 3;", -12);
        }
    }

    @Says(at = AT, value = "'relation' from to hysteresis (0 to 30)")
    @Break({"void readRelation()", "takeNumber(0, MAX_HYSTERESIS)", "takeNumber(0, MAX_HYSTERESIS - 1)"})
    @Break({"void readRelation()", "takeNumber(0, MAX_HYSTERESIS)", "takeNumber(0, MAX_HYSTERESIS + 1)"})
    static void relationClause(Check c) {
        Nets.text(c, TWO + "relation 0 1 0;relation 1 0 30;", 2);
        Nets.text(c, TWO + "relation 0 1 ^31;", -12);
        Nets.text(c, TWO + "relation 0 1 ^-1;", -11);
        Nets.text(c, TWO + "relation 0 1 ^;", -11);
        Nets.text(c, TWO + "relation 0 1 5 ^5;", -11);
        CellHandover h = Check.loaded(TWO + "relation 1 0 17;");
        c.is("from 1 to 0", h.hysteresis(1, 0), 17);
        c.is("not from 0 to 1", h.hysteresis(0, 1), -1);
    }

    /** Every number in turn is the least and the greatest one, and one more and one less; the others are the least. */
    private static void ranges(Check c, String keyword, int[] low, int[] high, int due) {
        for (int i = 0; i < low.length; i++) {
            Nets.text(c, clause(keyword, low, i, Integer.toString(low[i])), due);
            Nets.text(c, clause(keyword, low, i, Integer.toString(high[i])), due);
            Nets.text(c, clause(keyword, low, i, "^" + (high[i] + 1)), -12);
            Nets.text(c, clause(keyword, low, i, "^" + (low[i] - 1)), low[i] > 0 ? -12 : -11);
            Nets.text(c, clause(keyword, low, i, "^"), -11);
        }
    }

    private static String clause(String keyword, int[] numbers, int place, String number) {
        StringBuilder clause = new StringBuilder(keyword);
        for (int i = 0; i < numbers.length; i++) {
            if (i == place && number.equals("^")) {
                return clause.append(" ^;").toString();
            }
            clause.append(' ').append(i == place ? number : Integer.toString(numbers[i]));
        }
        return clause.append(';').toString();
    }

    @Says(at = AT, value = "The two cells of a relation are different cells that were defined before, and there is no earlier "
            + "relation with the same two cells in the same order.")
    @Break({"void readRelation()", "takeNumber(0, network.cellCount - 1)", "takeNumber(0, network.cellCount)"})
    @Break({"void readRelation()", "takeNumber(0, network.cellCount - 1)", "takeNumber(0, network.cellCount - 2)"})
    @Break({"void readRelation()", "seeNumber(0, network.cellCount - 1)", "seeNumber(0, network.cellCount)"})
    @Break({"void readRelation()", "seeNumber(0, network.cellCount - 1)", "seeNumber(0, network.cellCount - 2)"})
    @Break({"void readRelation()", "to == from", "to == from && to == 0"})
    @Break({"void readRelation()", "relation.exists", "relation.exists || network.relationAt(to, from).exists"})
    static void cellsOfRelations(Check c) {
        Nets.text(c, "relation ^0 1 3;" + TWO, -12);
        Nets.text(c, CELL + "relation 0 ^1 3;" + CELL, -12);
        Nets.text(c, CELL + "relation ^1 0 3;" + CELL, -12);
        Nets.text(c, TWO + "relation 0 1 3;relation 1 0 3;", 2);
        Nets.text(c, TWO + "relation 0 ^2 3;", -12);
        Nets.text(c, TWO + "relation ^2 0 3;", -12);
        Nets.text(c, TWO + "relation 0 ^0 3;", -12);
        Nets.text(c, TWO + "relation 1 ^1 3;", -12);
        Nets.text(c, TWO + "relation 0 1 3;relation 0 ^1 4;", -14);
    }

    @Says(at = AT, value = "If 'settings' occurs more than once, the last occurrence counts.")
    @Break({"void readSettings()", "text.advance();", "text.advance(); if (network.dropTime != 3) { return; }"})
    static void lastSettings(Check c) {
        CellHandover h = Check.loaded("settings 2 1 5 4 5 1;" + CELL + "settings 7 1 5 4 60 20;settings 3 1 5 4 60 2;");
        Nets.caller(h, 0, 0);
        h.setVelocity(0, 10, 0);
        h.run(1);
        c.is("drop time 2", h.state(0), 1);
        h.run(1);
        c.is("drop time 2", h.state(0), 0);
        CellHandover g = Check.loaded("settings 2 1 5 4 5 1;" + CELL + "settings 7 1 5 4 5 20;settings 3 1 5 4 5 2;");
        Nets.caller(g, 0, 0);
        g.run(9);
        c.is("window 3", g.reportCount(0, 0), 3);
    }

    @Says(at = AT, value = "The text is checked token by token, and the first token with an error determines the result.")
    @Break({"void fail(int code)", "if (error == 0)", "if (error == 0 || code > error)"})
    @Break({"void fail(int code)", "if (error == 0)", "if (error == 0 || code < error)"})
    @Break({"void advance()", "if (error != 0)", "if (false)"})
    static void firstError(Check c) {
        Nets.text(c, "cell ^1000 x;;", -12);
        Nets.text(c, "cell ^x 1000;;", -11);
        Nets.text(c, "cell 0 0 60 10 1 1 ^100 100", -12);
        Nets.text(c, TWO + "relation 0 1 3;relation 0 ^1 99;;", -14);
        Nets.text(c, TWO + "relation ^2 2 99;", -12);
        Nets.text(c, TWO + "relation ^x 0 3;", -11);
        Nets.text(c, TWO + "relation 0 1 3 ^relation 0 1 3;", -11);
        Nets.text(c, CELL + "^foo bar;", -11);
        Nets.text(c, "settings ^9 9 51 31 100 21;", -12);
    }

    @Says(at = AT, value = "If several codes apply to one token, the smallest one counts.")
    @Break({"void readNetwork()", "text.expect(\";\")", "if (network.cellCount >= MAX_CELLS && text.is(\"cell\")) "
            + "{ text.fail(TOO_MANY); } text.expect(\";\")"})
    @Break({"void readNetwork()", "text.expect(\";\")", "if (network.relationCount >= MAX_RELATIONS && "
            + "text.is(\"relation\")) { text.fail(TOO_MANY); } text.expect(\";\")"})
    @Break({"private int comparison()", "boolean less =",
            "if (text.is(\"10000\")) { text.fail(OUT_OF_RANGE); } boolean less ="})
    @Break({"private int seeValue()", "return text.seeNumber(0, MAX_NUMBER)",
            "if (text.is(\"(\")) { text.fail(TOO_MANY); } return text.seeNumber(0, MAX_NUMBER)"})
    @Break({"void expect(String token)", "if (is(token))", "if (kind == DIGIT && !is(token)) { fail(OUT_OF_RANGE); } if (is(token))"})
    static void smallestCode(Check c) {
        StringBuilder full = new StringBuilder();
        for (int i = 0; i < 8; i++) {
            full.append(Nets.cell(9, 1, 1, 1, 1));
        }
        // The keyword of the ninth cell where no keyword is allowed.
        Nets.text(c, full + "settings 4 2 5 4 5 3 ^cell 0 0 9 10 1 1 1 1;", -11);
        Nets.text(c, full + "relation 0 ^cell", -11);
        for (int i = 0; i < 24; i++) {
            full.append(Nets.relation(i / 7, (i / 7 + 1 + i % 7) % 8, 1));
        }
        Nets.text(c, full + "settings 4 2 5 4 5 3 ^relation 4 0 1;", -11);
        // A number that is out of every range where no number is allowed.
        Nets.text(c, "cell 0 0 60 10 1 1 10 20 ^99999;", -11);
        Nets.text(c, "^99999", -11);
        // The second cell of a relation is out of range, where the first one has a relation to every other cell.
        Nets.text(c, TWO + "relation 0 1 1;relation 1 0 1;relation 0 ^2 1;", -12);
        Nets.text(c, TWO + "relation 0 1 1;relation 1 0 1;relation 1 ^1 1;", -12);
        CellHandover h = new CellHandover();
        Nets.ask(c, h, "many x ^10000", -1000000001);
        Nets.ask(c, h, "many x=1 ^10000", -1000000001);
        Nets.ask(c, h, "many ((((((x=^(1", -1000000001);
        Nets.ask(c, h, "many ((((((x ^not", -1000000001);
        Nets.ask(c, h, "many not not not not not not x=1 ^not x=1", -1000000001);
    }

    @Says(at = AT, value = "1: the token is not allowed here, or the text ends too early (the position is then the length of "
            + "the text).")
    @Break({"void close()", "error != 0 ? start : NONE", "error != 0 ? Math.min(start, end - 1) : NONE"})
    @Break({"void readNetwork()", "text.expect(\";\")", "if (text.goesOn()) { text.expect(\";\"); }"})
    @Break({"private void readClause()", "text.fail(NOT_ALLOWED)", "text.fail(OUT_OF_RANGE)"})
    @Break({"int seeNumber", "fail(NOT_ALLOWED)", "fail(OUT_OF_RANGE)"})
    static void notAllowed(Check c) {
        String clause = "cell 11 22 60 10 1 1 10 20;";
        for (int end = 1; end < clause.length(); end++) {
            char last = clause.charAt(end - 1);
            String part = clause.substring(0, end);
            if (end >= 4 && last != ' ') {
                Nets.text(c, part + "^", -11);
                Nets.text(c, part + "  ^", -11);
                Nets.text(c, part + " \n^", -11);
            }
        }
        Nets.text(c, CELL + "relation^", -11);
        Nets.text(c, TWO + "relation 0^", -11);
        Nets.text(c, TWO + "relation 0 1^", -11);
        Nets.text(c, TWO + "relation 0 1 3^", -11);
        Nets.text(c, "settings 4 2 5 4 5 3^", -11);
        Nets.text(c, "^foo", -11);
        Nets.text(c, "cell ^cell", -11);
        Nets.text(c, "settings 4 ^, 5", -11);
        // Behind the length that is given the buffer does not count.
        CellHandover h = new CellHandover();
        Check.feed(h, CELL);
        c.is("one byte less", h.load(CELL.length() - 1), -11);
        c.is("its position", h.errorPosition(), CELL.length() - 1);
        Check.feed(h, CELL);
        c.is("in the middle of a number", h.load(CELL.length() - 2), -11);
        c.is("its position", h.errorPosition(), CELL.length() - 2);
    }

    @Says(at = AT, value = "2: a number is out of range, or it is not the number of an existing cell, or the second cell of a "
            + "relation is equal to the first one.")
    @Break({"int seeNumber", "number < low || number > high", "number > high"})
    @Break({"int seeNumber", "number < low || number > high", "number < low"})
    @Break({"int seeNumber", "fail(OUT_OF_RANGE)", "fail(NOT_ALLOWED)"})
    @Break({"void readRelation()", "text.fail(OUT_OF_RANGE)", "text.fail(TWICE)"})
    @Break({"void readRelation()", "if (to == from) {", "text.advance(); if (to == from) {"})
    static void outOfRange(Check c) {
        Nets.text(c, "cell 0 0 ^0 10 1 1 10 20;", -12);
        Nets.text(c, "cell 0 0 ^100 10 1 1 10 20;", -12);
        Nets.text(c, "relation ^0", -12);
        Nets.text(c, CELL + "relation 0 ^1", -12);
        Nets.text(c, CELL + "relation ^1", -12);
        Nets.text(c, CELL + "relation 0 ^0", -12);
        Nets.text(c, TWO + "relation 1 ^1 3;", -12);
        Nets.text(c, TWO + "relation 1 ^01 3;", -12);
        Nets.text(c, TWO + CELL + "relation 2 ^2 3;", -12);
        Nets.text(c, TWO + CELL + "relation 2 1 3;", 3);
    }

    @Says(at = AT, value = "3: the keyword of the ninth cell or of the 25th relation;")
    @Break({"private void readCell()", "network.cellCount >= MAX_CELLS", "network.cellCount > MAX_CELLS"})
    @Break({"private void readCell()", "network.cellCount >= MAX_CELLS", "network.cellCount >= MAX_CELLS - 1"})
    @Break({"private void readCell()", "text.fail(TOO_MANY)", "text.fail(NOT_ALLOWED)"})
    @Break({"private void readRelation()", "network.relationCount >= MAX_RELATIONS", "network.relationCount > MAX_RELATIONS"})
    @Break({"private void readRelation()", "network.relationCount >= MAX_RELATIONS",
            "network.relationCount >= MAX_RELATIONS - 1"})
    @Break({"private void readRelation()", "text.fail(TOO_MANY)", "text.fail(TWICE)"})
    @Break({"private void readRelation()", "network.relationCount >= MAX_RELATIONS",
            "network.cellCount >= MAX_CELLS && network.relationCount >= 7"})
    static void tooMany(Check c) {
        StringBuilder full = new StringBuilder();
        for (int i = 0; i < 8; i++) {
            Nets.text(c, full.toString(), i);
            full.append(Nets.cell(9, 1, 1, 1, 1));
        }
        Nets.text(c, full + "^cell 0 0 9 10 1 1 1 1;", -13);
        Nets.text(c, full + "^cell", -13);
        Nets.text(c, full + "^cell cell", -13);
        for (int i = 0; i < 24; i++) {
            Nets.text(c, full.toString(), 8);
            full.append(Nets.relation(i / 7, (i / 7 + 1 + i % 7) % 8, 1));
        }
        Nets.text(c, full.toString(), 8);
        Nets.text(c, full + "^relation 7 0 1;", -13);
        Nets.text(c, full + "^relation", -13);
        Nets.text(c, full + "^relation 0 1 1;", -13);
        Nets.text(c, full + "^cell 0 0", -13);
        Nets.text(c, full + "settings 4 2 5 4 5 3;", 8);
        Nets.text(c, full + "^cells", -11);
    }

    @Says(at = AT, value = "4: the second cell of a relation that exists already.")
    @Break({"private void readRelation()", "text.fail(TWICE)", "text.fail(TOO_MANY)"})
    @Break({"private void readRelation()", "text.fail(TWICE)", "text.fail(NOT_ALLOWED)"})
    @Break({"private void readRelation()", "if (relation.exists) {", "text.advance(); if (relation.exists) {"})
    @Break({"private void readRelation()", "if (relation.exists) {", "if (relation.exists && network.relationCount == 1) {"})
    static void twice(Check c) {
        Nets.text(c, TWO + "relation 0 1 3;relation 0 ^1 3;", -14);
        Nets.text(c, TWO + "relation 0 1 3;relation 0 ^1", -14);
        Nets.text(c, TWO + "relation 0 1 3;relation 0 ^01 x", -14);
        Nets.text(c, TWO + "relation 1 0 3;relation 0 1 3;relation 0 ^1 30;", -14);
        Nets.text(c, TWO + "relation 1 0 3;relation 0 1 3;relation 1 ^0 30;", -14);
        Nets.text(c, TWO + CELL + "relation 0 1 3;relation 0 2 3;relation 1 2 3;relation 2 0 3;", 3);
    }
}
