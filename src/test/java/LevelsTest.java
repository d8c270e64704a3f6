/** Promises 10 to 13: levels, the strongest cell, coverage and missing relations. */
public final class LevelsTest {
    private static final Check CHECK = new Check();

    public static void main(String[] args) {
        levels();
        strongest();
        coverage();
        missing();
        CHECK.end();
    }

    private static void levels() {
        CellHandover h = Check.loaded("cell 100 200 50 7 1 0 0 0;cell 999 0 99 50 1 0 0 0;");
        CHECK.is("at the cell", h.level(0, 100, 200), 50);
        CHECK.is("distance 1", h.level(0, 101, 200), 50);
        CHECK.is("distance 14", h.level(0, 100, 186), 50);
        CHECK.is("distance 15", h.level(0, 85, 200), 49);
        CHECK.is("distance 8 + 7", h.level(0, 92, 207), 49);
        CHECK.is("distance 300", h.level(0, 0, 0), 29);
        CHECK.is("distance 714", h.level(0, 814, 200), 1);
        CHECK.is("distance 715", h.level(0, 815, 200), 0);
        CHECK.is("far away", h.level(0, 999, 999), 0);
        CHECK.is("the second cell", h.level(1, 999, 100), 49);
        CHECK.is("the second cell, farthest", h.level(1, 0, 999), 0);
        CHECK.noSuch("no cell 2", () -> h.level(2, 0, 0));
        CHECK.noSuch("no cell -1", () -> h.level(-1, 0, 0));
        CHECK.noSuch("the cell is checked first", () -> h.level(2, -1, 1000));
        CHECK.illegal("x -1", () -> h.level(0, -1, 0));
        CHECK.illegal("x 1000", () -> h.level(0, 1000, 0));
        CHECK.illegal("y -1", () -> h.level(0, 0, -1));
        CHECK.illegal("y 1000", () -> h.level(0, 0, 1000));
        CHECK.illegal("extremes", () -> h.level(0, Integer.MAX_VALUE, Integer.MIN_VALUE));
    }

    private static void strongest() {
        CellHandover h = Check.loaded("cell 0 0 60 10 1 0 55 0;cell 100 0 60 10 1 0 10 0;cell 100 0 60 10 1 0 10 0;");
        CHECK.is("cell 0", h.strongestCell(0, 0), 0);
        CHECK.is("a tie of 0 and 1", h.strongestCell(50, 0), 0);
        CHECK.is("at its access level", h.strongestCell(59, 0), 1);
        CHECK.is("a tie of 1 and 2", h.strongestCell(100, 0), 1);
        CHECK.is("below the access level of the strongest", h.strongestCell(0, 60), -1);
        CHECK.is("its access level", h.strongestCell(0, 59), 0);
        CHECK.is("at the access level of 1", h.strongestCell(100, 509), 1);
        CHECK.is("below it", h.strongestCell(100, 510), -1);
        CHECK.illegal("x -1", () -> h.strongestCell(-1, 0));
        CHECK.illegal("x 1000", () -> h.strongestCell(1000, 0));
        CHECK.illegal("y -1", () -> h.strongestCell(0, -1));
        CHECK.illegal("y 1000", () -> h.strongestCell(0, 1000));
        CHECK.illegal("without cells", () -> new CellHandover().strongestCell(0, 1000));
        CHECK.is("level 0 is enough for access level 0",
                Check.loaded("cell 0 0 1 50 1 0 0 0;").strongestCell(999, 999), 0);
    }

    private static void coverage() {
        CHECK.is("one point", Check.loaded("cell 37 37 1 50 1 0 1 0;").coverage(0), 1);
        CHECK.is("all points", Check.loaded("cell 37 37 1 50 1 0 0 0;").coverage(0), 784);
        CHECK.is("the first corner", Check.loaded("cell 0 0 10 10 1 0 6 0;").coverage(0), 3);
        CHECK.is("the last corner", Check.loaded("cell 999 999 10 10 1 0 6 0;").coverage(0), 3);
        CHECK.is("between the points", Check.loaded("cell 18 18 10 50 1 0 1 0;").coverage(0), 0);
        CellHandover h = Check.loaded("cell 0 0 60 1 1 0 0 0;cell 0 0 60 1 1 0 0 0;cell 999 999 60 1 1 0 99 0;");
        CHECK.is("a tie", h.coverage(1), 0);
        CHECK.is("no access", h.coverage(2), 0);
        // Nearer than 999 to the origin: rows of 27, 26 and so on; the levels are equal from 1000 / 999 on.
        int nearer = 0;
        for (int x = 0; x < 28; x++) {
            for (int y = 0; y < 28; y++) {
                nearer += 37 * (x + y) / 100 <= (1998 - 37 * (x + y)) / 100 ? 1 : 0;
            }
        }
        CHECK.is("the rest", h.coverage(0), nearer);
        CHECK.noSuch("no cell 3", () -> h.coverage(3));
        CHECK.noSuch("no cell -1", () -> h.coverage(-1));
    }

    private static void missing() {
        String apart = "cell 0 0 60 10 1 1 10 20;cell 400 0 60 10 1 1 10 20;";
        CHECK.is("0 to 1", Check.loaded(apart).missingRelation(5), 1);
        CHECK.is("1 to 0", Check.loaded(apart + "relation 0 1 1;").missingRelation(5), 8);
        CHECK.is("none", Check.loaded(apart + "relation 0 1 1;relation 1 0 1;").missingRelation(30), -1);
        String one = "cell 0 0 20 10 1 0 0 0;cell 0 0 15 10 1 0 0 0;";
        CHECK.is("a margin of 5", Check.loaded(one).missingRelation(5), 1);
        CHECK.is("a margin of 4", Check.loaded(one).missingRelation(4), -1);
        CHECK.is("cell 1 is never the strongest", Check.loaded(one + "relation 0 1 0;").missingRelation(30), -1);
        String small = "cell 10 0 25 10 1 0 0 0;";
        CHECK.is("two points", Check.loaded(small + "cell 10 0 3 10 1 0 0 0;").missingRelation(30), -1);
        CHECK.is("three points", Check.loaded(small + "cell 10 0 5 10 1 0 0 0;").missingRelation(30), 1);
        CHECK.is("three points, just", Check.loaded(small + "cell 10 0 5 10 1 0 0 0;").missingRelation(20), 1);
        CHECK.is("level 0 does not count", Check.loaded("cell 0 0 9 10 1 0 0 0;cell 999 0 1 50 1 0 0 0;")
                .missingRelation(30), -1);
        CHECK.is("access levels do not count",
                Check.loaded("cell 0 0 20 10 1 0 99 0;cell 0 0 15 10 1 0 99 0;").missingRelation(5), 1);
        CHECK.is("ties belong to the smaller number",
                Check.loaded("cell 0 0 60 10 1 0 0 0;cell 0 0 60 10 1 0 0 0;relation 0 1 0;").missingRelation(30), -1);
        CHECK.is("margin 0", Check.loaded("cell 0 0 60 10 1 0 0 0;cell 0 0 60 10 1 0 0 0;").missingRelation(0), 1);
        CHECK.is("2 to 3", Check.loaded("cell 0 999 9 10 1 0 0 0;cell 999 999 9 10 1 0 0 0;"
                + "cell 0 0 20 10 1 0 0 0;cell 0 0 15 10 1 0 0 0;").missingRelation(5), 19);
        CHECK.is("one cell", Check.loaded("cell 0 0 20 10 1 0 0 0;").missingRelation(30), -1);
        // Slope 8 reaches 37 with level 3: the corner and its two neighbours among the grid points, no more.
        CHECK.is("the first corner",
                Check.loaded("cell 0 0 30 8 1 0 0 0;cell 0 0 3 8 1 0 0 0;").missingRelation(30), 1);
        CHECK.is("the last corner",
                Check.loaded("cell 999 999 30 8 1 0 0 0;cell 999 999 3 8 1 0 0 0;").missingRelation(30), 1);
        CHECK.is("the last row",
                Check.loaded("cell 500 999 30 8 1 0 0 0;cell 500 999 3 8 1 0 0 0;").missingRelation(30), -1);
        CHECK.is("cell 1 before cell 0 on the plane",
                Check.loaded("cell 0 0 9 8 1 0 0 0;cell 0 0 30 8 1 0 0 0;").missingRelation(30), 8);
        CellHandover h = Check.loaded(apart);
        String before = Check.picture(h);
        CHECK.illegal("margin -1", () -> h.missingRelation(-1));
        CHECK.illegal("margin 31", () -> h.missingRelation(31));
        CHECK.is("asked twice", h.missingRelation(5) + h.missingRelation(5), 2);
        CHECK.is("not kept from the call before", h.missingRelation(0), -1);
        CHECK.holds("nothing changes", before.equals(Check.picture(h)));
        CHECK.illegal("without cells", () -> new CellHandover().missingRelation(31));
    }
}
