/** Networks and callers for the tests of single sentences. */
final class Nets {
    private Nets() {
    }

    static CellHandover with(String... parts) {
        StringBuilder text = new StringBuilder();
        for (String part : parts) {
            text.append(part);
        }
        return Check.loaded(text.toString());
    }

    /** A cell at the origin, where its level is its power; the level is one less for every 10 of distance. */
    static String cell(int power, int channels, int capacity, int access, int low) {
        return clause("cell", 0, 0, power, 10, channels, capacity, access, low);
    }

    static String relation(int from, int to, int hysteresis) {
        return clause("relation", from, to, hysteresis);
    }

    static String settings(int window, int reports, int pingPong, int queueTime, int dropLevel, int dropTime) {
        return clause("settings", window, reports, pingPong, queueTime, dropLevel, dropTime);
    }

    static String clause(String keyword, int... numbers) {
        StringBuilder clause = new StringBuilder(keyword);
        for (int number : numbers) {
            clause.append(' ').append(number);
        }
        return clause.append(';').toString();
    }

    /** Adds a mobile that stands there and calls for 500 ticks; answers what the call answered. */
    static int caller(CellHandover h, int x, int y) {
        return h.call(h.addMobile(x, y, 0, 0), 500);
    }

    /** Adds mobiles that stand at the origin and call for 500 ticks. */
    static void callers(CellHandover h, int count) {
        for (int i = 0; i < count; i++) {
            caller(h, 0, 0);
        }
    }

    static void tick(CellHandover h, int count) {
        for (int i = 0; i < count; i++) {
            h.run(1);
        }
    }

    /** Loads a text into a new object. The token with the error stands behind the sign '^', which is not fed. */
    static void text(Check c, String marked, int due) {
        CellHandover h = new CellHandover();
        c.is("load " + marked, Check.load(h, unmarked(marked)), due);
        c.is("position in " + marked, h.errorPosition(), marked.indexOf('^'));
    }

    /** Asks a query, marked in the same way. */
    static void ask(Check c, CellHandover h, String marked, int due) {
        c.is(marked, Check.ask(h, unmarked(marked)), due);
        c.is("position in " + marked, h.errorPosition(), marked.indexOf('^'));
    }

    private static String unmarked(String marked) {
        int place = marked.indexOf('^');
        return place < 0 ? marked : marked.substring(0, place) + marked.substring(place + 1);
    }
}
