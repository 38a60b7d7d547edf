/** The sheets of part 5 of the terms, with promises 18 to 22. */
final class EdgeSheets {
    private static final int UNKNOWN = RangeRules.UNKNOWN, OUTSIDE = RangeRules.OUTSIDE;
    private static final long LOST = RangeRules.LOST;
    private static final int NULL = 1, CAST = 2, INDEX = 3, SIZE = 4;
    private static final int LEAST = Integer.MIN_VALUE, MOST = Integer.MAX_VALUE;
    private static final String THREE = Scene.THREE;
    private static final int SHORTS = Scene.SHORTS, INTS = Scene.INTS, NOTHING = Scene.NOTHING;

    private EdgeSheets() {
    }

    static void all() {
        rows();
        cut();
        sheet();
        sheetUnknown();
        sheetLanes();
        sheetAboveSixty();
        sheetSize();
        lose();
        loseNothing();
        loseUnknown();
        put();
        putUnknown();
        putNull();
        putIndex();
        cell();
        cellUnknown();
        cellLanes();
        cellCast();
        cellNull();
        cellIndex();
        copy();
        copyItself();
        copyUnknown();
        copyNull();
        copyCast();
        copyIndex();
    }

    private static void rowIs(RangeRules x, int k, int lane, int... dues) {
        for (int i = 0; i < dues.length; i++) Scene.answers(x, dues[i], "cell", k, i, lane);
        Scene.answers(x, LOST, "cell", k, dues.length, lane);
    }

    // ---- the terms

    private static void rows() {
        Document.part(5, "SHEETS 0 .. 3 have nothing (at first), or a row of 0 .. 60 numbers (0 at first) of a LANE: "
            + "0 bytes, 1 shorts, 2 ints;");
        for (int k = 0; k <= 3; k++) {
            RangeRules x = new RangeRules();
            Due.is("nothing at first", x.lose(k), 0);
            for (int lane = 0; lane <= 2; lane++) {
                Due.is("a row of none", x.sheet(k, lane, 0), 1);
                rowIs(x, k, lane);
                Due.is("a row of 60", x.sheet(k, lane, 60), 1);
                rowIs(x, k, lane, new int[60]);
            }
            for (int other = 0; other <= 3; other++) Due.is("no other sheet", x.lose(other), other == k ? 1 : 0);
        }
        for (int k : Scene.FAR) Scene.refuses(THREE, UNKNOWN, "lose", k);
        Scene.refuses(THREE, UNKNOWN, "lose", 4);
    }

    private static void cutTo(int lane, int v, int due) {
        RangeRules x = new RangeRules();
        Due.row(x, 0, lane, v, v);
        rowIs(x, 0, lane, due, due);
    }

    private static void cut() {
        Document.part(5, "what comes to a cell of it is cut to its LANE.");
        int[] numbers = {
            0, 127, 128, 255, 256, -128, -129, -256, 32767, 32768, 65535, 65536, -32768, -32769, LEAST, MOST};
        int[] bytes = {0, 127, -128, -1, 0, -128, 127, 0, -1, 0, -1, 0, 0, -1, 0, -1};
        int[] shorts = {0, 127, 128, 255, 256, -128, -129, -256, 32767, -32768, -1, 0, -32768, 32767, 0, -1};
        for (int k = 0; k < numbers.length; k++) {
            cutTo(0, numbers[k], bytes[k]);
            cutTo(1, numbers[k], shorts[k]);
            cutTo(2, numbers[k], numbers[k]);
        }
    }

    // ---- promise 18

    private static void sheet() {
        Document.promise(18, "A SHEET gets a new row: 1.");
        for (int lane = 0; lane <= 2; lane++) {
            for (int n : new int[] {0, 1, 60}) {
                RangeRules x = new RangeRules();
                Due.row(x, 3, 2, 7, 7, 7, 7);
                Due.is("sheet", x.sheet(3, lane, n), 1);
                Due.is("fault", x.fault(), 0);
                rowIs(x, 3, lane, new int[n]);
            }
        }
        RangeRules grown = new RangeRules();
        Due.row(grown, 0, 0, 7, 7, 7);
        Due.is("shorter", grown.sheet(0, 0, 1), 1);
        Due.is("longer", grown.sheet(0, 0, 4), 1);
        rowIs(grown, 0, 0, 0, 0, 0, 0);
    }

    private static void sheetUnknown() {
        Document.promise(18, "UNKNOWN;");
        for (int k : new int[] {LEAST, -1, 4, MOST}) {
            Scene.refuses(THREE, UNKNOWN, "sheet", k, 0, 1);
            Scene.refuses(THREE, UNKNOWN, "sheet", k, 3, 61);
            Scene.refuses(THREE, UNKNOWN, "sheet", k, 0, -1);
        }
    }

    private static void sheetLanes() {
        Document.promise(18, "OUTSIDE: lane,");
        for (int lane : new int[] {LEAST, -1, 3, MOST}) {
            Scene.refuses(THREE, OUTSIDE, "sheet", 0, lane, 1);
            Scene.refuses(THREE, OUTSIDE, "sheet", NOTHING, lane, 1);
            Scene.refuses(THREE, OUTSIDE, "sheet", 0, lane, -1);
        }
    }

    private static void sheetAboveSixty() {
        Document.promise(18, "n above 60;");
        for (int n : new int[] {61, 62, MOST}) {
            Scene.refuses(THREE, OUTSIDE, "sheet", 0, 0, n);
            Scene.refuses(THREE, OUTSIDE, "sheet", NOTHING, 2, n);
        }
        Due.is("60", Scene.of(THREE).sheet(0, 0, 60), 1);
    }

    private static void sheetSize() {
        Document.promise(18, "SIZE.");
        for (int n : new int[] {LEAST, -61, -1}) {
            for (int lane = 0; lane <= 2; lane++) {
                Scene.faults(THREE, SIZE, "sheet", 0, lane, n);
                Scene.faults(THREE, SIZE, "sheet", NOTHING, lane, n);
            }
        }
    }

    // ---- promise 19

    private static void lose() {
        Document.promise(19, "A SHEET has nothing: 1;");
        RangeRules x = Scene.of(THREE);
        Due.is("a row of none", x.sheet(NOTHING, 0, 0), 1);
        for (int k = 0; k <= 3; k++) {
            Due.is("lose(" + k + ")", x.lose(k), 1);
            for (int lane = 0; lane <= 2; lane++) {
                Due.is("no cell", x.cell(k, 0, lane), LOST);
                Due.is("there is nothing", x.fault(), NULL);
            }
        }
        Due.is("the rules stay", x.many(0), 3);
    }

    private static void loseNothing() {
        Document.promise(19, "0: it had nothing.");
        Scene.tellsOnly(THREE, 0, "lose", NOTHING);
        RangeRules x = Scene.of(THREE);
        Due.is("once", x.lose(0), 1);
        Due.is("twice", x.lose(0), 0);
        Due.is("the others have theirs", x.lose(SHORTS) + x.lose(INTS), 2);
    }

    private static void loseUnknown() {
        Document.promise(19, "UNKNOWN.");
        for (int k : new int[] {LEAST, -1, 4, MOST}) Scene.refuses(THREE, UNKNOWN, "lose", k);
    }

    // ---- promise 20

    private static void put() {
        Document.promise(20, "Cell i of a SHEET becomes v: 1.");
        RangeRules x = Scene.of(THREE);
        Due.is("the first", x.put(SHORTS, 0, 77), 1);
        Due.is("its fault", x.fault(), 0);
        rowIs(x, SHORTS, 1, 77, -300, 5, 0);
        Due.is("the last", x.put(SHORTS, 3, 88), 1);
        rowIs(x, SHORTS, 1, 77, -300, 5, 88);
        rowIs(x, INTS, 2, 70000, 1, 0);
        Due.is("sixty", x.sheet(0, 0, 60), 1);
        Due.is("the last of sixty", x.put(0, 59, 9), 1);
        Due.is("it is that", x.cell(0, 59, 0), 9);
    }

    private static void putUnknown() {
        Document.promise(20, "UNKNOWN;");
        for (int k : new int[] {LEAST, -1, 4, MOST}) {
            Scene.refuses(THREE, UNKNOWN, "put", k, 0, 0);
            Scene.refuses(THREE, UNKNOWN, "put", k, -1, 0);
        }
    }

    private static void putNull() {
        Document.promise(20, "NULL;");
        for (int i : new int[] {LEAST, -1, 0, 60, MOST}) Scene.faults(THREE, NULL, "put", NOTHING, i, 5);
    }

    private static void putIndex() {
        Document.promise(20, "INDEX.");
        for (int i : new int[] {LEAST, -1, 4, 59, 60, MOST}) Scene.faults(THREE, INDEX, "put", SHORTS, i, 5);
        RangeRules x = Scene.of(THREE);
        Due.is("a row of none", x.sheet(0, 0, 0), 1);
        Due.is("has no first", x.put(0, 0, 5), -13);
        Due.is("a row of sixty", x.sheet(0, 0, 60), 1);
        Due.is("has no more", x.put(0, 60, 5), -13);
    }

    // ---- promise 21

    private static void cell() {
        Document.promise(21, "Cell i of what a SHEET has, taken as a row of a LANE.");
        Scene.tellsOnly(THREE, 'q', "cell", 0, 0, 0);
        Scene.tellsOnly(THREE, 'z', "cell", 0, 18, 0);
        Scene.tellsOnly(THREE, 300, "cell", SHORTS, 0, 1);
        Scene.tellsOnly(THREE, -300, "cell", SHORTS, 1, 1);
        Scene.tellsOnly(THREE, 0, "cell", SHORTS, 3, 1);
        Scene.tellsOnly(THREE, 70000, "cell", INTS, 0, 2);
        Scene.tellsOnly(THREE, 0, "cell", INTS, 2, 2);
        RangeRules x = new RangeRules();
        Due.row(x, 0, 2, LEAST, MOST, -1);
        rowIs(x, 0, 2, LEAST, MOST, -1);
    }

    private static void cellUnknown() {
        Document.promise(21, "LOST: UNKNOWN,");
        for (int k : new int[] {LEAST, -1, 4, MOST}) {
            Scene.refuses(THREE, LOST, "cell", k, 0, 0);
            Scene.refuses(THREE, LOST, "cell", k, -1, 3);
        }
    }

    private static void cellLanes() {
        Document.promise(21, "OUTSIDE: lane;");
        for (int lane : new int[] {LEAST, -1, 3, MOST}) {
            Scene.refuses(THREE, LOST, "cell", 0, 0, lane);
            Scene.refuses(THREE, LOST, "cell", 0, -1, lane);
            Scene.refuses(THREE, LOST, "cell", NOTHING, 0, lane);
        }
    }

    private static void cellCast() {
        Document.promise(21, "FAULTS CAST");
        for (int row = 0; row <= 2; row++) {
            for (int lane = 0; lane <= 2; lane++) {
                if (lane == row) continue;
                for (int i : new int[] {-1, 0, 60}) Scene.faults(THREE, CAST, "cell", row, i, lane);
            }
        }
    }

    private static void cellNull() {
        Document.promise(21, "(nothing is no CAST), NULL,");
        for (int lane = 0; lane <= 2; lane++) {
            for (int i : new int[] {-1, 0, 60}) Scene.faults(THREE, NULL, "cell", NOTHING, i, lane);
        }
    }

    private static void cellIndex() {
        Document.promise(21, "INDEX.");
        for (int i : new int[] {LEAST, -1, 4, 59, 60, MOST}) Scene.faults(THREE, INDEX, "cell", SHORTS, i, 1);
        RangeRules x = Scene.of(THREE);
        Due.is("a row of none", x.sheet(0, 0, 0), 1);
        Due.is("has no first", x.cell(0, 0, 0), LOST);
        Due.is("its fault", x.fault(), INDEX);
    }

    // ---- promise 22

    private static void copy() {
        Document.promise(22, "n cells of a SHEET from i on go to another one");
        RangeRules x = Scene.of(THREE);
        Due.row(x, NOTHING, 1, 1, 2, 3, 4, 5, 6);
        Due.is("none", x.copy(SHORTS, 0, NOTHING, 0, 0), 0);
        rowIs(x, NOTHING, 1, 1, 2, 3, 4, 5, 6);
        Due.is("the last to the last", x.copy(SHORTS, 2, NOTHING, 5, 1), 1);
        rowIs(x, NOTHING, 1, 1, 2, 3, 4, 5, 5);
        Due.is("all", x.copy(SHORTS, 0, NOTHING, 2, 4), 4);
        rowIs(x, NOTHING, 1, 1, 2, 300, -300, 5, 0);
        rowIs(x, SHORTS, 1, 300, -300, 5, 0);
        Due.is("its fault", x.fault(), 3);
        Due.is("all again", x.copy(SHORTS, 0, NOTHING, 0, 4), 4);
        Due.is("its fault", x.fault(), 0);
        RangeRules y = new RangeRules();
        Due.is("sixty", y.sheet(0, 2, 60), 1);
        Due.is("sixty", y.sheet(1, 2, 60), 1);
        for (int i = 0; i < 60; i++) y.put(0, i, i + 1);
        Due.is("sixty go", y.copy(0, 0, 1, 0, 60), 60);
        for (int i = 0; i < 60; i++) Due.is("cell " + i, y.cell(1, i, 2), i + 1);
    }

    private static void copyItself() {
        Document.promise(22, "(perhaps the same) from j on, as they were: n.");
        RangeRules x = new RangeRules();
        Due.row(x, 0, 2, 1, 2, 3, 4, 5);
        Due.is("further along", x.copy(0, 0, 0, 1, 4), 4);
        rowIs(x, 0, 2, 1, 1, 2, 3, 4);
        Due.is("back", x.copy(0, 1, 0, 0, 4), 4);
        rowIs(x, 0, 2, 1, 2, 3, 4, 4);
        Due.is("where they are", x.copy(0, 0, 0, 0, 5), 5);
        rowIs(x, 0, 2, 1, 2, 3, 4, 4);
        Due.is("none", x.copy(0, 5, 0, 5, 0), 0);
        rowIs(x, 0, 2, 1, 2, 3, 4, 4);
    }

    private static void copyUnknown() {
        Document.promise(22, "UNKNOWN;");
        for (int k : new int[] {LEAST, -1, 4, MOST}) {
            Scene.refuses(THREE, UNKNOWN, "copy", k, 0, SHORTS, 0, 1);
            Scene.refuses(THREE, UNKNOWN, "copy", SHORTS, 0, k, 0, 1);
            Scene.refuses(THREE, UNKNOWN, "copy", NOTHING, 0, k, 0, 1);
            Scene.refuses(THREE, UNKNOWN, "copy", k, -1, NOTHING, -1, -1);
        }
    }

    private static void copyNull() {
        Document.promise(22, "FAULTS NULL (the first, the other),");
        for (int row = 0; row <= 2; row++) {
            Scene.faults(THREE, NULL, "copy", NOTHING, 0, row, 0, 0);
            Scene.faults(THREE, NULL, "copy", row, 0, NOTHING, 0, 0);
            Scene.faults(THREE, NULL, "copy", NOTHING, -1, row, -1, -1);
            Scene.faults(THREE, NULL, "copy", row, -1, NOTHING, -1, -1);
        }
        Scene.faults(THREE, NULL, "copy", NOTHING, 0, NOTHING, 0, 0);
    }

    private static void copyCast() {
        Document.promise(22, "CAST (unlike LANES),");
        for (int row = 0; row <= 2; row++) {
            for (int other = 0; other <= 2; other++) {
                if (other == row) continue;
                Scene.faults(THREE, CAST, "copy", row, 0, other, 0, 1);
                Scene.faults(THREE, CAST, "copy", row, 0, other, 0, 0);
                Scene.faults(THREE, CAST, "copy", row, -1, other, 61, -1);
            }
        }
    }

    private static void copyIndex() {
        Document.promise(22, "INDEX: i, j, n below 0 or beyond.");
        // Of four shorts.
        int[][] wrong = {
            {-1, 0, 0}, {-1, 0, 1}, {0, -1, 0}, {0, -1, 1}, {0, 0, -1}, {5, 0, 0}, {0, 5, 0}, {4, 0, 1}, {0, 4, 1},
            {0, 0, 5}, {1, 0, 4}, {0, 1, 4}, {3, 0, 2}, {0, 3, 2}, {4, 4, -1}, {LEAST, 0, 1}, {0, LEAST, 1},
            {0, 0, LEAST}, {MOST, 0, 1}, {0, MOST, 1}, {0, 0, MOST}, {MOST, MOST, MOST}, {1, 0, MOST}, {0, 1, MOST},
            {LEAST, LEAST, LEAST}, {MOST, 0, LEAST}};
        for (int[] w : wrong) Scene.faults(THREE, INDEX, "copy", SHORTS, w[0], SHORTS, w[1], w[2]);
        // Rows of unlike length: each is looked at by its own.
        RangeRules x = Scene.of(THREE);
        Due.row(x, NOTHING, 1, 1, 2);
        Due.is("beyond the other", x.copy(SHORTS, 0, NOTHING, 0, 3), -13);
        Due.is("beyond the first", x.copy(NOTHING, 0, SHORTS, 0, 3), -13);
        rowIs(x, NOTHING, 1, 1, 2);
        rowIs(x, SHORTS, 1, 300, -300, 5, 0);
        Due.is("all of the shorter", x.copy(NOTHING, 0, SHORTS, 2, 2), 2);
        rowIs(x, SHORTS, 1, 300, -300, 1, 2);
    }
}
