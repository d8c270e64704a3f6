/** The sentences of promises 9 to 13. */
final class PlaneSentences {
    private PlaneSentences() {
    }

    @Says(at = "Promise 9", value = {"Returns the hysteresis of the relation between two cells;",
        "NONE if there is no such relation."})
    @Break({"public int hysteresis", "relation.exists ? relation.hysteresis : NONE", "relation.hysteresis"})
    @Break({"public int hysteresis", "relation.exists ? relation.hysteresis : NONE",
            "relation.hysteresis > 0 ? relation.hysteresis : NONE"})
    @Break({"public int hysteresis", "now.relationAt(from, to)", "now.relationAt(to, from)"})
    static void hystereses(Check c) {
        StringBuilder text = new StringBuilder();
        for (int i = 0; i < 8; i++) {
            text.append(Nets.cell(9, 1, 0, 0, 0));
        }
        CellHandover h = Nets.with(text.toString(), "relation 0 7 0;relation 7 0 30;relation 2 1 5;");
        for (int from = 0; from < 8; from++) {
            for (int to = 0; to < 8; to++) {
                int pair = 10 * from + to;
                c.is("from " + from + " to " + to, h.hysteresis(from, to), pair == 7 ? 0 : pair == 70 ? 30 : pair == 21 ? 5 : -1);
            }
        }
    }

    @Says(at = "Promise 9", value = "Throws `NoSuchElementException` if there is no such cell")
    @Break({"public int hysteresis", "requireCell(from);", ""})
    @Break({"public int hysteresis", "requireCell(to);", ""})
    @Break({"private void requireCell", "cell < 0 || ", ""})
    @Break({"private void requireCell", "cell >= now.cellCount", "cell > now.cellCount"})
    @Break({"private void requireCell", "cell >= now.cellCount", "cell >= MAX_CELLS"})
    static void noCellForHysteresis(Check c) {
        CellHandover h = Nets.with(Nets.cell(9, 1, 0, 0, 0), Nets.cell(9, 1, 0, 0, 0), "relation 0 1 3;");
        int[] none = {-1, 2, 7, 8, Integer.MIN_VALUE, Integer.MAX_VALUE};
        for (int cell : none) {
            c.noSuch("from " + cell, () -> h.hysteresis(cell, 1));
            c.noSuch("to " + cell, () -> h.hysteresis(0, cell));
        }
        c.is("the last cell", h.hysteresis(0, 1), 3);
    }

    @Says(at = "Promise 10", value = {"Returns the level of a cell at a point.", "- `x`: 0 to 999", "- `y`: 0 to 999"})
    @Break({"public int level(", "requireRange(x, 0, MAX_COORDINATE)", "requireRange(x, 1, MAX_COORDINATE)"})
    @Break({"public int level(", "requireRange(x, 0, MAX_COORDINATE)", "requireRange(x, 0, MAX_COORDINATE - 1)"})
    @Break({"public int level(", "requireRange(y, 0, MAX_COORDINATE)", "requireRange(y, 1, MAX_COORDINATE)"})
    @Break({"public int level(", "requireRange(y, 0, MAX_COORDINATE)", "requireRange(y, 0, MAX_COORDINATE - 1)"})
    static void levels(Check c) {
        CellHandover h = Nets.with("cell 0 0 99 1 1 0 0 0;cell 999 999 99 1 1 0 0 0;cell 0 999 99 50 1 0 0 0;");
        c.is("a corner", h.level(0, 0, 0), 99);
        c.is("the other corner", h.level(0, 999, 999), 80);
        c.is("a corner", h.level(0, 999, 0), 90);
        c.is("a corner", h.level(0, 0, 999), 90);
        c.is("the second cell", h.level(1, 0, 0), 80);
        c.is("the second cell", h.level(1, 999, 999), 99);
        c.is("the third cell", h.level(2, 0, 999), 99);
        c.is("the third cell", h.level(2, 0, 801), 0);
        c.is("the third cell", h.level(2, 0, 802), 1);
    }

    @Says(at = "Promise 10", value = "Throws `NoSuchElementException` if there is no such cell (checked first)")
    @Break({"public int level(", "requireCell(cell);", ""})
    @Break({"public int level(", "requireCell(cell);\n        requireRange(x, 0, MAX_COORDINATE);",
            "requireRange(x, 0, MAX_COORDINATE);\n        requireCell(cell);"})
    static void noCellForLevel(Check c) {
        CellHandover h = Nets.with(Nets.cell(9, 1, 0, 0, 0), Nets.cell(9, 1, 0, 0, 0));
        int[] none = {-1, 2, 8, Integer.MIN_VALUE, Integer.MAX_VALUE};
        for (int cell : none) {
            c.noSuch("no cell " + cell, () -> h.level(cell, 5, 5));
            c.noSuch("checked first", () -> h.level(cell, -1, 5));
            c.noSuch("checked first", () -> h.level(cell, 5, 1000));
        }
        c.noSuch("without cells", () -> new CellHandover().level(0, 1000, 1000));
        c.is("the last cell", h.level(1, 0, 0), 9);
    }

    @Says(at = "Promise 10", value = "Throws `IllegalArgumentException` if x or y is out of range")
    @Break({"public int level(", "requireRange(x, 0, MAX_COORDINATE)", "requireRange(x, -1, MAX_COORDINATE)"})
    @Break({"public int level(", "requireRange(x, 0, MAX_COORDINATE)", "requireRange(x, 0, MAX_COORDINATE + 1)"})
    @Break({"public int level(", "requireRange(y, 0, MAX_COORDINATE)", "requireRange(y, -1, MAX_COORDINATE)"})
    @Break({"public int level(", "requireRange(y, 0, MAX_COORDINATE)", "requireRange(y, 0, MAX_COORDINATE + 1)"})
    static void noPointForLevel(Check c) {
        CellHandover h = Nets.with(Nets.cell(9, 1, 0, 0, 0));
        int[] outside = {-1, 1000, Integer.MIN_VALUE, Integer.MAX_VALUE};
        for (int outer : outside) {
            c.illegal("x " + outer, () -> h.level(0, outer, 5));
            c.illegal("y " + outer, () -> h.level(0, 5, outer));
        }
    }

    @Says(at = "Promise 11", value = {"Returns the strongest cell of a point if its level there is at least its access level;",
        "- `x`: 0 to 999", "- `y`: 0 to 999"})
    @Break({"private boolean canBeUsed", ">= used.accessLevel", "> used.accessLevel"})
    @Break({"private boolean canBeUsed", ">= used.accessLevel", ">= used.accessLevel - 1"})
    @Break({"public int strongestCell", "requireRange(x, 0, MAX_COORDINATE)", "requireRange(x, 1, MAX_COORDINATE)"})
    @Break({"public int strongestCell", "requireRange(x, 0, MAX_COORDINATE)", "requireRange(x, 0, MAX_COORDINATE - 1)"})
    @Break({"public int strongestCell", "requireRange(y, 0, MAX_COORDINATE)", "requireRange(y, 1, MAX_COORDINATE)"})
    @Break({"public int strongestCell", "requireRange(y, 0, MAX_COORDINATE)", "requireRange(y, 0, MAX_COORDINATE - 1)"})
    static void strongest(Check c) {
        CellHandover h = Nets.with("cell 0 0 60 10 1 0 50 0;cell 999 999 60 10 1 0 60 0;");
        c.is("level 60 for 50", h.strongestCell(0, 0), 0);
        c.is("level 50 for 50", h.strongestCell(0, 109), 0);
        c.is("level 50 for 50", h.strongestCell(109, 0), 0);
        c.is("level 49 for 50", h.strongestCell(0, 110), -1);
        c.is("level 60 for 60", h.strongestCell(999, 990), 1);
        c.is("level 60 for 60", h.strongestCell(999, 999), 1);
        c.is("level 59 for 60", h.strongestCell(999, 989), -1);
        c.is("level 0 for 0", Nets.with("cell 0 0 9 50 1 0 0 0;").strongestCell(999, 0), 0);
        c.is("level 0 for 0", Nets.with("cell 0 0 9 50 1 0 0 0;").strongestCell(0, 999), 0);
        c.is("level 0 for 1", Nets.with("cell 0 0 9 50 1 0 1 0;").strongestCell(999, 999), -1);
    }

    @Says(at = "Promise 11", value = "NONE otherwise, or without cells.")
    @Break({"int coveringCell", "best != NONE && canBeUsed(best, x, y) ? best : NONE", "best"})
    @Break({"int loudestCell", "if (found > bestLevel)", "if (found > bestLevel && canBeUsed(cell, x, y))"})
    static void noStrongest(Check c) {
        CellHandover h = Nets.with("cell 0 0 60 10 1 0 61 0;cell 0 0 59 10 1 0 0 0;");
        c.is("the other cell does not count", h.strongestCell(0, 0), -1);
        c.is("without cells", new CellHandover().strongestCell(0, 0), -1);
        Check.load(h, "");
        c.is("without cells", h.strongestCell(0, 0), -1);
    }

    @Says(at = "Promise 11", value = "Throws `IllegalArgumentException` if x or y is out of range")
    @Break({"public int strongestCell", "requireRange(x, 0, MAX_COORDINATE)", "requireRange(x, -1, MAX_COORDINATE)"})
    @Break({"public int strongestCell", "requireRange(x, 0, MAX_COORDINATE)", "requireRange(x, 0, MAX_COORDINATE + 1)"})
    @Break({"public int strongestCell", "requireRange(y, 0, MAX_COORDINATE)", "requireRange(y, -1, MAX_COORDINATE)"})
    @Break({"public int strongestCell", "requireRange(y, 0, MAX_COORDINATE)", "requireRange(y, 0, MAX_COORDINATE + 1)"})
    @Break({"public int strongestCell", "requireRange(x", "if (now.cellCount == 0) { return NONE; } requireRange(x"})
    static void noPointForStrongest(Check c) {
        CellHandover h = Nets.with(Nets.cell(9, 1, 0, 0, 0));
        CellHandover empty = new CellHandover();
        int[] outside = {-1, 1000, Integer.MIN_VALUE, Integer.MAX_VALUE};
        for (int outer : outside) {
            c.illegal("x " + outer, () -> h.strongestCell(outer, 5));
            c.illegal("y " + outer, () -> h.strongestCell(5, outer));
            c.illegal("without cells too", () -> empty.strongestCell(outer, 5));
        }
    }

    @Says(at = "Promise 12", value = "Returns the number of grid points for which strongestCell returns this cell.")
    @Break({"int countCovered", "network.coveringCell(x, y) == cell", "network.loudestCell(x, y) == cell"})
    @Break({"int countCovered", "network.coveringCell(x, y) == cell",
            "network.cellAt(cell).levelAt(x, y) >= network.cellAt(cell).accessLevel"})
    static void coverage(Check c) {
        // Slope 50: level 9 at the cell itself, and 0 at its next grid points.
        c.is("only its own point", Nets.with("cell 37 37 9 50 1 0 1 0;").coverage(0), 1);
        c.is("no access", Nets.with("cell 37 37 9 50 1 0 10 0;").coverage(0), 0);
        c.is("between the points", Nets.with("cell 18 18 9 50 1 0 1 0;").coverage(0), 0);
        CellHandover h = Nets.with("cell 37 37 9 50 1 0 1 0;cell 37 37 9 50 1 0 1 0;cell 74 37 9 50 1 0 0 0;");
        c.is("a tie", h.coverage(0), 1);
        c.is("a tie", h.coverage(1), 0);
        c.is("ties of level 0 belong to cell 0", h.coverage(2), 1);
    }

    @Says(at = "Promise 12", value = "The grid points are all points whose coordinates are multiples of 37 (from 0 to 999).")
    @Break({"", "GRID_STEP = 37", "GRID_STEP = 36"})
    @Break({"int countCovered", "int x = 0;", "int x = GRID_STEP;"})
    @Break({"int countCovered", "int y = 0;", "int y = GRID_STEP;"})
    @Break({"int countCovered", "x <= MAX_COORDINATE", "x < MAX_COORDINATE"})
    @Break({"int countCovered", "y <= MAX_COORDINATE", "y < MAX_COORDINATE"})
    static void gridPoints(Check c) {
        c.is("28 times 28", Nets.with("cell 500 500 9 9 1 0 0 0;").coverage(0), 784);
        int[] places = {0, 37, 74, 962, 999};
        for (int place : places) {
            c.is("a grid point", Nets.with(Nets.clause("cell", place, 37, 9, 50, 1, 0, 9, 0)).coverage(0), 1);
            c.is("a grid point", Nets.with(Nets.clause("cell", 37, place, 9, 50, 1, 0, 9, 0)).coverage(0), 1);
            // Two away the level is one less.
            int beside = place < 500 ? place + 2 : place - 2;
            c.is("beside it", Nets.with(Nets.clause("cell", beside, 37, 9, 50, 1, 0, 9, 0)).coverage(0), 0);
            c.is("beside it", Nets.with(Nets.clause("cell", 37, beside, 9, 50, 1, 0, 9, 0)).coverage(0), 0);
        }
    }

    @Says(at = "Promise 12", value = "Throws `NoSuchElementException` if there is no such cell")
    @Break({"public int coverage(", "requireCell(cell);", ""})
    static void noCellForCoverage(Check c) {
        CellHandover h = Nets.with(Nets.cell(9, 1, 0, 0, 0), Nets.cell(10, 1, 0, 0, 0));
        int[] none = {-1, 2, 8, Integer.MIN_VALUE, Integer.MAX_VALUE};
        for (int cell : none) {
            c.noSuch("no cell " + cell, () -> h.coverage(cell));
        }
        c.noSuch("without cells", () -> new CellHandover().coverage(0));
        c.is("all levels that are above 0", h.coverage(1), 6);
    }

    @Says(at = "Promise 13", value = {"Finds a missing relation: the first pair of different cells a, b (in ascending "
        + "order of a, then of b)", "Returns 8 * a + b;"})
    @Break({"int findMissing", "int pair = from * MAX_CELLS + to;", "int pair = to * MAX_CELLS + from;"})
    @Break({"private void countNear", "cell != strongest && ", ""})
    static void firstPair(Check c) {
        String corner = "cell 0 0 30 8 1 0 0 0;cell 0 0 20 8 1 0 0 0;cell 0 0 25 8 1 0 0 0;";
        c.is("0 and 1", Nets.with(corner).missingRelation(30), 1);
        c.is("0 and 2", Nets.with(corner, "relation 0 1 5;").missingRelation(30), 2);
        c.is("0 and 2", Nets.with(corner).missingRelation(5), 2);
        String rest = "cell 999 999 20 8 1 0 0 0;cell 999 999 30 8 1 0 0 0;";
        c.is("0 before 4", Nets.with(corner, rest).missingRelation(30), 1);
        c.is("0 and 2 before 4", Nets.with(corner, "relation 0 1 5;", rest).missingRelation(30), 2);
        c.is("4 and 3", Nets.with(corner, "relation 0 1 5;relation 0 2 5;", rest).missingRelation(30), 35);
        c.is("none of a cell to itself", Nets.with("cell 0 0 30 8 1 0 0 0;").missingRelation(30), -1);
    }

    @Says(at = "Promise 13", value = "without a relation from a to b")
    @Break({"int findMissing", "\n                            && !network.relationAt(from, to).exists", ""})
    @Break({"int findMissing", "!network.relationAt(from, to).exists", "!network.relationAt(to, from).exists"})
    static void withoutRelation(Check c) {
        String corner = "cell 0 0 30 8 1 0 0 0;cell 0 0 20 8 1 0 0 0;";
        c.is("none", Nets.with(corner).missingRelation(30), 1);
        c.is("back", Nets.with(corner, "relation 1 0 5;").missingRelation(30), 1);
        c.is("there", Nets.with(corner, "relation 0 1 5;").missingRelation(30), -1);
        c.is("both", Nets.with(corner, "relation 1 0 5;relation 0 1 0;").missingRelation(30), -1);
    }

    @Says(at = "Promise 13", value = "for which there are at least 3 grid points (see coverage)")
    @Break({"", "ENOUGH_POINTS = 3", "ENOUGH_POINTS = 4"})
    @Break({"", "ENOUGH_POINTS = 3", "ENOUGH_POINTS = 2"})
    @Break({"int findMissing", "int x = 0;", "int x = GRID_STEP;"})
    @Break({"int findMissing", "int y = 0;", "int y = GRID_STEP;"})
    @Break({"int findMissing", "int x = 0;", "int x = -1;"})
    @Break({"int findMissing", "int y = 0;", "int y = -1;"})
    @Break({"int findMissing", "x <= MAX_COORDINATE", "x < MAX_COORDINATE"})
    @Break({"int findMissing", "y <= MAX_COORDINATE", "y < MAX_COORDINATE"})
    @Break({"int findMissing", "Arrays.fill(nearPoints, 0);", ""})
    static void threePoints(Check c) {
        // The level 19 - 50 * distance / 100 of cell 1 is 1 up to the distance 37, and 0 from 38 on.
        int[] borders = {0, 999};
        for (int x : borders) {
            for (int y : borders) {
                int beside = x == 0 ? 1 : 998;
                c.is("the corner and two points", points(x, y, 19), 1);
                c.is("one away from it, two points", points(beside, y, 19), -1);
                c.is("only the corner", points(x, y, 18), -1);
            }
        }
        c.is("five points", points(37, 962, 19), 1);
        c.is("one point", points(37, 962, 18), -1);
        // Two points, which are counted anew in each call.
        CellHandover two = Nets.with("cell 10 0 30 10 1 0 0 0;cell 10 0 3 10 1 0 0 0;");
        for (int i = 0; i < 3; i++) {
            c.is("two", two.missingRelation(30), -1);
        }
    }

    /** What is found if cell 0 and, with less power, cell 1 are at a point. */
    private static int points(int x, int y, int power) {
        return Nets.with(Nets.clause("cell", x, y, 30, 50, 1, 0, 0, 0), Nets.clause("cell", x, y, power, 50, 1, 0, 0, 0))
                .missingRelation(30);
    }

    @Says(at = "Promise 13", value = "where a is the strongest cell")
    @Break({"private void countNear", "network.loudestCell(x, y)", "network.coveringCell(x, y)"})
    @Break({"private void countNear", "network.loudestCell(x, y)", "0"})
    @Break({"int loudestCell", "found > bestLevel", "found >= bestLevel"})
    static void strongestOfPair(Check c) {
        String tie = "cell 0 0 30 8 1 0 0 0;cell 0 0 30 8 1 0 0 0;";
        c.is("the smaller number on a tie", Nets.with(tie).missingRelation(0), 1);
        c.is("the greater number never", Nets.with(tie, "relation 0 1 0;").missingRelation(30), -1);
        c.is("the other is the strongest", Nets.with("cell 0 0 20 8 1 0 0 0;cell 0 0 30 8 1 0 0 0;").missingRelation(30), 8);
        c.is("its access level does not count", Nets.with("cell 0 0 30 8 1 0 99 0;cell 0 0 20 8 1 0 99 0;")
                .missingRelation(30), 1);
    }

    @Says(at = "Promise 13", value = "and the level of b is above 0")
    @Break({"private void countNear", "level > 0", "level >= 0"})
    @Break({"private void countNear", "level > 0", "level > 1"})
    static void heardCells(Check c) {
        // With slope 1, cell 0 has the level 1 in more than 3 grid points, and cell 1 has 1 or 0.
        c.is("level 1", Nets.with("cell 0 0 1 1 1 0 0 0;cell 0 0 1 1 1 0 0 0;").missingRelation(30), 1);
        c.is("level 0", Nets.with("cell 0 0 1 1 1 0 0 0;cell 999 999 1 1 1 0 0 0;relation 1 0 0;").missingRelation(30), -1);
    }

    @Says(at = "Promise 13", value = "and at most margin less than the level of a.")
    @Break({"private void countNear", "top - level <= margin", "top - level < margin"})
    @Break({"private void countNear", "top - level <= margin", "top - level <= margin + 1"})
    static void margins(Check c) {
        for (int margin = 0; margin <= 30; margin++) {
            CellHandover h = Nets.with("cell 0 0 60 8 1 0 0 0;", Nets.clause("cell", 0, 0, 60 - margin, 8, 1, 0, 0, 0));
            c.is("at most " + margin, h.missingRelation(margin), 1);
            if (margin > 0) {
                c.is("more than " + (margin - 1), h.missingRelation(margin - 1), -1);
            }
        }
        c.is("31 is more than 30", Nets.with("cell 0 0 60 8 1 0 0 0;cell 0 0 29 8 1 0 0 0;").missingRelation(30), -1);
    }

    @Says(at = "Promise 13", value = {"- `margin`: 0 to 30", "NONE if there is none.",
        "Throws `IllegalArgumentException` if margin is out of range"})
    @Break({"public int missingRelation", "requireRange(margin, 0, MAX_HYSTERESIS)", "requireRange(margin, 1, MAX_HYSTERESIS)"})
    @Break({"public int missingRelation", "requireRange(margin, 0, MAX_HYSTERESIS)", "requireRange(margin, 0, 29)"})
    @Break({"public int missingRelation", "requireRange(margin, 0, MAX_HYSTERESIS)", "requireRange(margin, -1, MAX_HYSTERESIS)"})
    @Break({"public int missingRelation", "requireRange(margin, 0, MAX_HYSTERESIS)", "requireRange(margin, 0, 31)"})
    @Break({"public int missingRelation", "requireRange(margin", "if (now.cellCount == 0) { return NONE; } requireRange(margin"})
    static void wrongMargins(Check c) {
        CellHandover h = Nets.with("cell 0 0 60 8 1 0 0 0;cell 0 0 9 8 1 0 0 0;");
        CellHandover empty = new CellHandover();
        c.is("0", h.missingRelation(0), -1);
        c.is("30", h.missingRelation(30), -1);
        c.is("without cells", empty.missingRelation(0), -1);
        c.is("without cells", empty.missingRelation(30), -1);
        int[] wrong = {-1, 31, Integer.MIN_VALUE, Integer.MAX_VALUE};
        for (int margin : wrong) {
            c.illegal("margin " + margin, () -> h.missingRelation(margin));
            c.illegal("margin " + margin, () -> empty.missingRelation(margin));
        }
    }
}
