/** Promise 43: queries. */
public final class QueryTest {
    private static final Check CHECK = new Check();

    public static void main(String[] args) {
        lengths();
        CellHandover h = scene();
        properties(h);
        signs(h);
        logic(h);
        openOnes(h);
        words(h);
        numbers(h);
        emptyScene();
        CHECK.end();
    }

    /** Mobile 0 talks in 1, 1 waits at 1, 2 is idle, 3 talks in 0 and waits for a handover, 4 waits at 1. */
    private static CellHandover scene() {
        CellHandover h = Check.loaded("cell 0 0 40 10 1 1 0 99;cell 0 0 50 10 1 6 0 0;relation 0 1 0;relation 1 0 0;"
                + "settings 4 2 5 30 0 3;");
        h.addMobile(0, 0, 0, 0);
        h.addMobile(1, 30, 0, 0);
        h.addMobile(999, 7, 0, 0);
        h.addMobile(0, 0, 0, 0);
        h.addMobile(20, 0, 0, 0);
        h.call(0, 500);
        h.call(3, 9);
        h.call(1, 33);
        h.call(4, 34);
        h.run(3);
        CHECK.is("mobile 3 waits", h.requestCell(3), 1);
        return h;
    }

    private static void ask(CellHandover h, String marked, int due) {
        int place = marked.indexOf('^');
        String text = place < 0 ? marked : marked.substring(0, place) + marked.substring(place + 1);
        String before = Check.scene(h);
        int undoCount = h.undoCount();
        CHECK.is(text, Check.ask(h, text), due);
        CHECK.is("position in " + text, h.errorPosition(), place);
        CHECK.is("feed after " + text, h.feed(0, 0, 0, 0, 0), 20);
        CHECK.illegal("load after " + text, () -> h.load(21));
        CHECK.is("a query of nothing", h.query(0), -1000000001);
        CHECK.is("undoCount", h.undoCount(), undoCount);
        CHECK.holds("nothing changes", before.equals(Check.scene(h)));
    }

    private static void lengths() {
        CellHandover h = new CellHandover();
        CHECK.is("query 0", h.query(0), -1000000001);
        CHECK.is("position", h.errorPosition(), 0);
        CHECK.illegal("query 1 of nothing", () -> h.query(1));
        for (int i = 0; i < 11; i++) {
            Check.feed(h, i == 0 ? "many x=0            " : "                    ");
        }
        CHECK.illegal("query -1", () -> h.query(-1));
        CHECK.illegal("query 201", () -> h.query(201));
        CHECK.illegal("query max", () -> h.query(Integer.MAX_VALUE));
        CHECK.illegal("query min", () -> h.query(Integer.MIN_VALUE));
        CHECK.is("position", h.errorPosition(), 0);
        CHECK.is("nothing changes", h.feed(0, 0, 0, 0, 0), 240);
        CHECK.is("query 200", h.query(200), 0);
        CHECK.is("position", h.errorPosition(), -1);
        CHECK.is("the buffer is empty", h.feed(0, 0, 0, 0, 0), 20);
        CHECK.illegal("query 21", () -> h.query(21));
        CHECK.is("query", h.query(20), -1000000001);
        Check.feed(h, "many x=01");
        CHECK.is("a part", h.query(7), -1000000001);
        CHECK.is("position", h.errorPosition(), 7);
        Check.feed(h, "many x=01");
        CHECK.is("a part", h.query(8), 0);
    }

    private static void properties(CellHandover h) {
        ask(h, "first mobile=2", 2);
        ask(h, "many mobile<9", 5);
        ask(h, "first x=999", 2);
        ask(h, "many x=0", 2);
        ask(h, "first y=30", 1);
        ask(h, "first y=7", 2);
        ask(h, "many state=0", 1);
        ask(h, "many state=1", 2);
        ask(h, "first state=2", 1);
        ask(h, "first cell=0", 3);
        ask(h, "first cell=1", 0);
        ask(h, "many cell=9", 3);
        ask(h, "many cell=8", 0);
        ask(h, "first left=497", 0);
        ask(h, "first left=6", 3);
        ask(h, "many left=0", 3);
        ask(h, "first reports=3", 0);
        ask(h, "many reports=3", 2);
        ask(h, "many reports=0", 3);
        ask(h, "first waits=1", 1);
        ask(h, "many waits=1", 3);
        ask(h, "many waits=0", 2);
        ask(h, "many waits>1", 0);
    }

    private static void signs(CellHandover h) {
        ask(h, "many mobile<2", 2);
        ask(h, "many mobile=2", 1);
        ask(h, "many mobile>2", 2);
        ask(h, "many 2<mobile", 2);
        ask(h, "many 2>mobile", 2);
        ask(h, "many x<y", 1);
        ask(h, "many x=y", 2);
        ask(h, "many x>y", 2);
        ask(h, "many 1=1", 5);
        ask(h, "many 1<1", 0);
        ask(h, "many 1>1", 0);
        ask(h, "many 9999>9998", 5);
        ask(h, "first 1=1", 0);
        ask(h, "first 1=2", -1);
        ask(h, "many mobile=mobile", 5);
        ask(h, "first mobile>3", 4);
    }

    private static void logic(CellHandover h) {
        ask(h, "many mobile=1 or mobile=3", 2);
        ask(h, "many mobile>1 and mobile<4", 2);
        ask(h, "many not mobile=1", 4);
        ask(h, "many not not mobile=1", 1);
        ask(h, "many not mobile=1 and not mobile=2", 3);
        ask(h, "many not mobile=1 or mobile=1", 5);
        ask(h, "many mobile=0 or mobile=1 and mobile=2", 1);
        ask(h, "many mobile=1 and mobile=2 or mobile=0", 1);
        ask(h, "many (mobile=0 or mobile=1) and mobile=2", 0);
        ask(h, "many (mobile=0 or mobile=1) and mobile<2", 2);
        ask(h, "many mobile<2 and (mobile=0 or mobile=4)", 1);
        ask(h, "many mobile=0 and mobile=0 or mobile=1 and mobile=1 or mobile=4", 3);
        ask(h, "many mobile=0 and mobile=1 or mobile=2 and mobile=1 or mobile=3 and mobile=2", 0);
        ask(h, "many not (mobile=0 or mobile=1)", 3);
        ask(h, "many not mobile=0 and mobile<2", 1);
        ask(h, "many not (mobile=0) and mobile<2", 1);
        ask(h, "many ((mobile=1))", 1);
        ask(h, "first not mobile<3 and not mobile=3", 4);
        ask(h, "many mobile=0 or mobile=1 or mobile=2 or mobile=3 or mobile=4", 5);
        ask(h, "many 1=1 and 1=1 and 1=1 and mobile>0", 4);
    }

    private static void openOnes(CellHandover h) {
        ask(h, "many not not not not not not mobile=1", 1);
        ask(h, "many not not not not not mobile=1", 4);
        ask(h, "many not not not not not not ^not mobile=1", -1000000003);
        ask(h, "many ((((((mobile=1))))))", 1);
        ask(h, "many ((((((^(mobile=1)))))))", -1000000003);
        ask(h, "many (not(not(not mobile=1)))", 4);
        ask(h, "many (not(not(not ^not mobile=1)))", -1000000003);
        ask(h, "many (not(not(not ^(mobile=1))))", -1000000003);
        ask(h, "many ((((((^not", -1000000003);
        ask(h, "many ((((((^and", -1000000001);
        ask(h, "many not not not not not not mobile=1 and not not not not not not mobile=1", 1);
        ask(h, "many not not not not not not mobile=1 or ((((((mobile=2))))))", 2);
        ask(h, "many (((not not not mobile=1) and (not not mobile=2)))", 1);
        ask(h, "many (((not not not mobile=1) and not not not mobile=2))", 3);
        ask(h, "many (((not not not mobile=1) and not not not not ^not mobile=2))", -1000000003);
    }

    private static void words(CellHandover h) {
        int bad = -1000000001;
        ask(h, "^", bad);
        ask(h, "^foo x=1", bad);
        ask(h, "^manyx x=1", bad);
        ask(h, "^Many x=1", bad);
        ask(h, "^cell", bad);
        ask(h, "^x=1", bad);
        ask(h, "many^", bad);
        ask(h, "first  \n^", bad);
        ask(h, "many ^many", bad);
        ask(h, "many x^", bad);
        ask(h, "many x ^1", bad);
        ask(h, "many x ^and", bad);
        ask(h, "many x=^", bad);
        ask(h, "many x=^=1", bad);
        ask(h, "many x<^=1", bad);
        ask(h, "many x=^(1)", bad);
        ask(h, "many x=^not", bad);
        ask(h, "many (x^)=1", bad);
        ask(h, "many ^=1", bad);
        ask(h, "many x=1 ^x=1", bad);
        ask(h, "many x=1^;", bad);
        ask(h, "many x=1^)", bad);
        ask(h, "many (x=1^", bad);
        ask(h, "many (x=1 ^x", bad);
        ask(h, "many (^)", bad);
        ask(h, "many x=1 and^", bad);
        ask(h, "many x=1 or^", bad);
        ask(h, "many x=1 and ^or x=1", bad);
        ask(h, "many x=1 or ^and x=1", bad);
        ask(h, "many ^and x=1", bad);
        ask(h, "many ^or x=1", bad);
        ask(h, "many not^", bad);
        ask(h, "many x=1 ^not x=1", bad);
        ask(h, "many ^foo=1", bad);
        ask(h, "many 1=^foo", bad);
        ask(h, "many ^relation=1", bad);
        ask(h, "many x^\t=1", bad);
        ask(h, "many ^\u00fc=1", bad);
        ask(h, "many x=^-1", bad);
        ask(h, "many ^mobiles=1", bad);
        ask(h, "many ^lef=1", bad);
        ask(h, "many\nx\n=\n0", 2);
        ask(h, "many(x=0)", 2);
        ask(h, "  first   x=0  ", 0);
        ask(h, "many not(x=0)", 3);
        ask(h, "many x=0or x=1", 3);
        ask(h, "many 0=x and 0=y", 2);
    }

    private static void numbers(CellHandover h) {
        int bad = -1000000002;
        ask(h, "many x<9999", 5);
        ask(h, "many x<^10000", bad);
        ask(h, "many ^10000>x", bad);
        ask(h, "many x<09999", 5);
        ask(h, "many x=000000000000000000000000", 2);
        ask(h, "many x=^4294967296", bad);
        ask(h, "many x=^18446744073709551616", bad);
        ask(h, "many x=^99999 foo", bad);
        ask(h, "many x=1 and y=^10000)", bad);
        ask(h, "first x=^10000", bad);
    }

    private static void emptyScene() {
        CellHandover h = new CellHandover();
        ask(h, "many 1=1", 0);
        ask(h, "first 1=1", -1);
        ask(h, "many not 1=1", 0);
        ask(h, "first not 1=2", -1);
        for (int i = 0; i < 12; i++) {
            h.addMobile(i, 0, 0, 0);
        }
        ask(h, "many 1=1", 12);
        ask(h, "many not 1=2", 12);
        ask(h, "first mobile=11", 11);
        ask(h, "first x=11", 11);
        ask(h, "many left=0 and cell=9 and reports=0 and waits=0", 12);
    }
}
