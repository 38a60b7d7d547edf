/** Promises 18 to 22, and 27 with them: sheets, their cells, and the faults they come to. */
public final class SheetsTest {
    private static final long LOST = RangeRules.LOST;

    private SheetsTest() {
    }

    public static void main(String[] args) {
        sheet();
        lose();
        put();
        lanes();
        cell();
        copy();
        copyOverItself();
        copyFaults();
        Due.end("SheetsTest");
    }

    private static void faulted(String call, RangeRules x, long got, long want, int fault) {
        Due.is(call, got, want);
        Due.is("fault of " + call, x.fault(), fault);
    }

    private static void sheet() {
        RangeRules x = new RangeRules();
        faulted("sheet(-1, 3, 61)", x, x.sheet(-1, 3, 61), RangeRules.UNKNOWN, 0);
        faulted("sheet(4, 0, -1)", x, x.sheet(4, 0, -1), RangeRules.UNKNOWN, 0);
        faulted("sheet(0, -1, -1)", x, x.sheet(0, -1, -1), RangeRules.OUTSIDE, 0);
        faulted("sheet(0, 3, 1)", x, x.sheet(0, 3, 1), RangeRules.OUTSIDE, 0);
        faulted("sheet(0, 0, 61)", x, x.sheet(0, 0, 61), RangeRules.OUTSIDE, 0);
        faulted("sheet(0, 0, -1)", x, x.sheet(0, 0, -1), -14, 4);
        faulted("sheet(0, 0, least)", x, x.sheet(0, 0, Integer.MIN_VALUE), -14, 4);
        faulted("nothing yet", x, x.put(0, 0, 1), -11, 1);
        for (int k = 0; k < 4; k++) faulted("sheet of 60", x, x.sheet(k, k % 3, 60), 1, 0);
        faulted("its last", x, x.put(3, 59, 7), 1, 0);
        faulted("one beyond", x, x.put(3, 60, 7), -13, 3);
        faulted("a size below 0 changes nothing", x, x.sheet(3, 1, -5), -14, 4);
        faulted("the last is still there", x, x.cell(3, 59, 0), 7, 0);
        faulted("a new row", x, x.sheet(3, 0, 60), 1, 0);
        for (int i = 0; i < 60; i++) Due.is("is 0 at first", x.cell(3, i, 0), 0);
        faulted("a row of none", x, x.sheet(3, 2, 0), 1, 0);
        faulted("has no cell", x, x.put(3, 0, 1), -13, 3);
        faulted("but is a row", x, x.lose(3), 1, 3);
    }

    private static void lose() {
        RangeRules x = new RangeRules();
        Due.is("lose(-1)", x.lose(-1), RangeRules.UNKNOWN);
        Due.is("lose(4)", x.lose(4), RangeRules.UNKNOWN);
        Due.is("had nothing", x.lose(2), 0);
        Due.row(x, 2, 1, 5, 6);
        Due.is("had a row", x.lose(2), 1);
        Due.is("has nothing", x.lose(2), 0);
        faulted("no cell", x, x.cell(2, 0, 1), LOST, 1);
        Due.is("a new row", x.sheet(2, 1, 2), 1);
        Due.is("does not have the old cells", x.cell(2, 0, 1), 0);
    }

    private static void put() {
        RangeRules x = new RangeRules();
        faulted("put(-1, ..)", x, x.put(-1, 0, 0), RangeRules.UNKNOWN, 0);
        faulted("put(4, ..)", x, x.put(4, 0, 0), RangeRules.UNKNOWN, 0);
        faulted("nothing", x, x.put(0, -1, 0), -11, 1);
        faulted("a refusal clears it", x, x.put(4, 0, 0), RangeRules.UNKNOWN, 0);
        Due.row(x, 0, 2, 1, 2, 3);
        faulted("put(0, -1)", x, x.put(0, -1, 9), -13, 3);
        faulted("put(0, 3)", x, x.put(0, 3, 9), -13, 3);
        faulted("put(0, far)", x, x.put(0, Integer.MAX_VALUE, 9), -13, 3);
        faulted("put(0, 1)", x, x.put(0, 1, 9), 1, 0);
        Due.is("cell 0", x.cell(0, 0, 2), 1);
        Due.is("cell 1", x.cell(0, 1, 2), 9);
        Due.is("cell 2", x.cell(0, 2, 2), 3);
    }

    private static void cut(int lane, int v, long want) {
        RangeRules x = new RangeRules();
        Due.row(x, 1, lane, v);
        Due.is("lane " + lane + ", " + v, x.cell(1, 0, lane), want);
    }

    private static void lanes() {
        cut(0, 127, 127);
        cut(0, 128, -128);
        cut(0, 256, 0);
        cut(0, -129, 127);
        cut(0, Integer.MAX_VALUE, -1);
        cut(1, 128, 128);
        cut(1, 32767, 32767);
        cut(1, 32768, -32768);
        cut(1, 65536 + 5, 5);
        cut(2, 32768, 32768);
        cut(2, Integer.MAX_VALUE, Integer.MAX_VALUE);
        cut(2, Integer.MIN_VALUE, Integer.MIN_VALUE);
    }

    private static void cell() {
        RangeRules x = new RangeRules();
        faulted("nothing is no cast", x, x.cell(0, -1, 2), LOST, 1);
        faulted("sheet -1", x, x.cell(-1, 0, 0), LOST, 0);
        faulted("nothing", x, x.cell(0, 0, 0), LOST, 1);
        faulted("sheet 4", x, x.cell(4, 0, 0), LOST, 0);
        Due.row(x, 0, 1, 300, -300);
        faulted("cell 0", x, x.cell(0, 0, 1), 300, 0);
        faulted("cell 1", x, x.cell(0, 1, 1), -300, 0);
        faulted("another lane, beyond", x, x.cell(0, 9, 2), LOST, 2);
        faulted("another lane", x, x.cell(0, 0, 0), LOST, 2);
        faulted("lane -1", x, x.cell(0, 0, -1), LOST, 0);
        faulted("beyond", x, x.cell(0, 2, 1), LOST, 3);
        faulted("lane 3", x, x.cell(0, 0, 3), LOST, 0);
        faulted("below 0", x, x.cell(0, -1, 1), LOST, 3);
    }

    private static void rowIs(String what, RangeRules x, int k, int lane, int... dues) {
        for (int i = 0; i < dues.length; i++) Due.is(what + " cell " + i, x.cell(k, i, lane), dues[i]);
    }

    private static void copy() {
        RangeRules x = new RangeRules();
        Due.row(x, 0, 1, 1, 2, 3, 4);
        Due.row(x, 3, 1, 10, 20, 30);
        faulted("copy", x, x.copy(0, 1, 3, 0, 2), 2, 0);
        rowIs("to", x, 3, 1, 2, 3, 30);
        rowIs("from", x, 0, 1, 1, 2, 3, 4);
        faulted("all", x, x.copy(3, 0, 0, 1, 3), 3, 0);
        rowIs("to", x, 0, 1, 1, 2, 3, 30);
        faulted("none, at the ends", x, x.copy(0, 4, 3, 3, 0), 0, 0);
        // What is copied does not follow what is put later.
        x.put(3, 0, 77);
        rowIs("to", x, 0, 1, 1, 2, 3, 30);
    }

    private static void copyOverItself() {
        RangeRules x = new RangeRules();
        Due.row(x, 0, 0, 1, 2, 3, 4, 5);
        Due.is("further along", x.copy(0, 0, 0, 1, 4), 4);
        rowIs("as they were", x, 0, 0, 1, 1, 2, 3, 4);
        Due.is("back", x.copy(0, 2, 0, 0, 3), 3);
        rowIs("as they were", x, 0, 0, 2, 3, 4, 3, 4);
    }

    private static void copyFaults() {
        RangeRules x = new RangeRules();
        faulted("first unknown", x, x.copy(-1, 0, 0, 0, 0), RangeRules.UNKNOWN, 0);
        faulted("other unknown ahead of nothing", x, x.copy(0, 0, 4, 0, 0), RangeRules.UNKNOWN, 0);
        faulted("first unknown, too", x, x.copy(4, 0, 0, 0, 0), RangeRules.UNKNOWN, 0);
        faulted("other unknown, too", x, x.copy(0, 0, -1, 0, 0), RangeRules.UNKNOWN, 0);
        faulted("both nothing", x, x.copy(0, 0, 1, 0, 0), -11, 1);
        Due.row(x, 0, 1, 1, 2, 3);
        faulted("the other nothing", x, x.copy(0, -1, 1, 0, 0), -11, 1);
        faulted("the first nothing", x, x.copy(1, -1, 0, 0, 0), -11, 1);
        Due.row(x, 1, 2, 1, 2, 3);
        faulted("unlike lanes", x, x.copy(0, -1, 1, 0, -1), -12, 2);
        faulted("unlike lanes, none taken", x, x.copy(0, 0, 1, 0, 0), -12, 2);
        Due.row(x, 1, 1, 7, 8);
        int[][] wrong = {
            {-1, 0, 0}, {4, 0, 0}, {0, -1, 0}, {0, 3, 0}, {0, 0, -1}, {0, 0, 3}, {2, 0, 2}, {0, 1, 2},
            {1, 0, Integer.MAX_VALUE}, {0, 1, Integer.MAX_VALUE}, {Integer.MAX_VALUE, 0, 1}, {0, 0, Integer.MIN_VALUE}};
        for (int[] w : wrong) {
            faulted("copy " + w[0] + " " + w[1] + " " + w[2], x, x.copy(0, w[0], 1, w[1], w[2]), -13, 3);
        }
        rowIs("nothing came", x, 1, 1, 7, 8);
        faulted("a fault", x, x.copy(0, 0, 1, 0, -1), -13, 3);
        faulted("one that comes to none clears it", x, x.copy(0, 0, 1, 0, 0), 0, 0);
        faulted("a fault", x, x.copy(0, 0, 1, 0, -1), -13, 3);
        faulted("a refusal, too", x, x.copy(0, 0, 4, 0, -1), RangeRules.UNKNOWN, 0);
    }
}
