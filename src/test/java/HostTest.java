/** Promises 25 to 29: sheet, cell, copy, family, taken. */
public final class HostTest {
    private static final Check CHECK = new Check("HostTest");
    private static final int MISSING = -1, BYTES = 0, SHORTS = 1, INTS = 2;
    private static final int MIN = Integer.MIN_VALUE, MAX = Integer.MAX_VALUE;

    public static void main(String[] args) {
        sheets();
        cells();
        bitsOfCells();
        copies();
        copyRefuses();
        families();
        familyRefuses();
        takens();
        CHECK.end();
    }

    private static void due(String call, long got, long want) {
        CHECK.due(call, got, want);
    }

    private static void sheets() {
        CausewayKept x = new CausewayKept();
        int[][] rows = {{-1, 0, 1, -2}, {4, 0, 1, -2}, {0, -2, 1, -2}, {0, 3, 1, -2}, {0, 0, 41, -2}, {0, 2, MAX, -2},
            {0, 0, -1, -14}, {0, 2, MIN, -14}, {4, 0, -1, -2}, {0, 3, -1, -2}, {0, -1, -1, 1}, {0, -1, 41, 1},
            {0, -1, MIN, 1}, {0, -1, MAX, 1}, {4, -1, 0, -2}, {0, 0, 0, 1}, {1, 1, 40, 1}, {3, 2, 40, 1}};
        for (int[] r : rows) {
            due("sheet(" + r[0] + ", " + r[1] + ", " + r[2] + ")", x.sheet(r[0], r[1], r[2]), r[3]);
        }
        due("a row of none", x.cell(0, 0, 0), -12);
        due("the 40th", x.cell(1, 39, 0), 1);
        due("a 41st", x.cell(1, 40, 0), -12);
        due("not made", x.cell(2, 0, 0), -11);
        due("refused: stays", x.sheet(1, 0, 41), -2);
        due("40 still", x.cell(1, 39, 0), 1);
        due("missing again", x.sheet(1, MISSING, 5), 1);
        due("is missing", x.cell(1, 0, 0), -11);
        CausewayKept y = walkerAtHome();
        Check.lay(y, 0, INTS, 5, 5);
        y.sheet(0, INTS, 2);
        due("all 0", y.tells(0, 0, 0), -1);
        Check.lay(y, 0, INTS, 0, 0, 7);
        y.sheet(0, MISSING, 0);
        y.sheet(0, BYTES, 3);
        due("all 0 behind missing", y.tells(0, 0, 0), -1);
    }

    /** One who stays at 0, so that a row of 0s tells it. */
    private static CausewayKept walkerAtHome() {
        CausewayKept x = new CausewayKept();
        x.person(0, 0, 1);
        return x;
    }

    private static void cells() {
        CausewayKept x = walkerAtHome();
        x.sheet(0, INTS, 2);
        int[][] rows = {{-1, 0, -2}, {4, 0, -2}, {1, 0, -11}, {1, -1, -11}, {0, -1, -12}, {0, 2, -12}, {0, MIN, -12},
            {0, MAX, -12}, {0, 0, 1}, {0, 1, 1}};
        for (int[] r : rows) {
            due("cell(" + r[0] + ", " + r[1] + ", 0)", x.cell(r[0], r[1], 0), r[2]);
        }
        due("the second", x.cell(0, 1, 5), 1);
        due("so it is", x.tells(0, 0, 0), 1);
    }

    private static void bitsOfCells() {
        CausewayKept x = walkerAtHome();
        x.set(5, 0, 5);
        int[][] rows = {{BYTES, 256 + 5, -1}, {BYTES, 5 - 256, -1}, {SHORTS, 256 + 5, 0}, {SHORTS, 65536 + 5, -1},
            {SHORTS, 5 - 65536, -1}, {INTS, 65536 + 5, 0}, {INTS, 5, -1}};
        for (int[] r : rows) {
            Check.lay(x, 0, r[0], r[1]);
            due("a cell of sort " + r[0] + " becomes " + r[1], x.tells(0, 0, 0), r[2]);
        }
        // the way tells a sign
        for (int sort = 0; sort < 3; sort++) {
            int[] ones = {255, 65535, -1};
            for (int k = 0; k < 3; k++) {
                CausewayKept y = new CausewayKept();
                Check.lay(y, 0, sort, 0, 0, ones[k]);
                due(ones[k] + " as a way, of sort " + sort, y.family(0, sort, 0, 1), k >= sort ? 1 : 0);
            }
        }
    }

    /** What stands in a sheet, told by one who is at home at each place in turn; -9: none of 0 .. 31. */
    private static int valueAt(CausewayKept x, int sheet, int i, int sort) {
        x.sheet(3, sort, 1);
        x.copy(sheet, i, 3, 0, 1);
        long bits = x.places(3, 0);
        return bits == 0 ? -9 : Long.numberOfTrailingZeros(bits);
    }

    private static void rowIs(String call, CausewayKept x, int sheet, int sort, int... want) {
        for (int i = 0; i < want.length; i++) {
            due(call + ", item " + i, valueAt(x, sheet, i, sort), want[i]);
        }
    }

    private static void copies() {
        CausewayKept x = walkerAtHome();
        Check.lay(x, 0, SHORTS, 1, 2, 3, 4, 5);
        Check.lay(x, 1, SHORTS, 11, 12, 13);
        due("copy(0, 1, 1, 0, 2)", x.copy(0, 1, 1, 0, 2), 2);
        rowIs("two came", x, 1, SHORTS, 2, 3, 13);
        due("onto itself, forth", x.copy(0, 0, 0, 1, 4), 4);
        rowIs("as they were", x, 0, SHORTS, 1, 1, 2, 3, 4);
        due("onto itself, back", x.copy(0, 1, 0, 0, 4), 4);
        rowIs("as they were, back", x, 0, SHORTS, 1, 2, 3, 4, 4);
        due("none, at the end", x.copy(0, 5, 1, 3, 0), 0);
        due("all", x.copy(1, 0, 0, 2, 3), 3);
        rowIs("three came", x, 0, SHORTS, 1, 2, 2, 3, 13);
    }

    private static void copyRefuses() {
        CausewayKept x = walkerAtHome();
        Check.lay(x, 0, SHORTS, 1, 2, 3);
        Check.lay(x, 1, INTS, 1, 2, 3);
        int[][] rows = {{-1, 0, 0, 0, 1, -2}, {0, 0, 4, 0, 1, -2}, {2, 0, 4, 0, 1, -2}, {0, 0, 2, 0, 1, -11},
            {2, 0, 0, 0, 1, -11}, {2, 0, 2, 9, -1, -11}, {0, 0, 1, 0, 1, -13}, {0, 9, 1, 0, -1, -13},
            {0, 0, 0, 0, 4, -12}, {0, 1, 0, 0, 3, -12}, {0, 0, 0, 1, 3, -12}, {0, -1, 0, 0, 1, -12},
            {0, 0, 0, -1, 1, -12}, {0, 0, 0, 0, -1, -12}, {0, 4, 0, 0, 0, -12}, {0, 0, 0, 4, 0, -12},
            {0, MAX, 0, 0, 1, -12}, {0, 0, 0, 0, MIN, -12}, {0, 1, 0, 1, MAX, -12}, {0, MAX, 0, MAX, MAX, -12},
            {0, MIN, 0, 0, MIN, -12}, {0, 3, 0, 3, 0, 0}};
        for (int[] r : rows) {
            due("copy(" + r[0] + ", " + r[1] + ", " + r[2] + ", " + r[3] + ", " + r[4] + ")",
                x.copy(r[0], r[1], r[2], r[3], r[4]), r[5]);
        }
        rowIs("nothing changed", x, 0, SHORTS, 1, 2, 3);
    }

    private static void families() {
        CausewayKept x = new CausewayKept();
        Check.lay(x, 2, INTS, 9, 3, 7, -1, 6, 0, 1, 2, 10, 1, 1, 0, 2, 5, 1, 1, 4, 8, -1);
        due("five from 1: others are left out", x.family(2, INTS, 1, 5), 2);
        due("the first is a child", x.told(0, 7), 3);
        due("its number", x.told(0, 3), 7);
        due("its way", x.told(0, 8), 0);
        due("the second is young", x.told(1, 7), 5);
        due("people", x.count(0), 2);
        due("none", x.family(2, INTS, 1, 0), 0);
        due("none, wherever", x.family(2, INTS, -7, 0), 0);
        due("outside at once", x.family(2, INTS, 19, 1), -12);
        due("below", x.family(2, INTS, -1, 1), -12);
        due("far below", x.family(2, INTS, MIN, 5), -12);
        due("far above", x.family(2, INTS, MAX, 5), -12);
        due("nobody came", x.count(0), 2);
        due("what stood ahead came", x.family(2, INTS, 16, 2), -12);
        due("one came", x.count(0), 3);
        due("that one", x.told(2, 3), 8);
        due("three ends outside", x.family(2, INTS, 17, 1), -12);
        due("nobody came then", x.count(0), 3);
        due("a fourth", x.person(0, 0, 1), 3);
        due("one more has room", x.family(2, INTS, 1, 5), 1);
        due("none has room", x.family(2, INTS, 1, 5), 0);
        due("full, and outside", x.family(2, INTS, 16, 2), -12);
        due("five people", x.count(0), 5);
        CausewayKept y = new CausewayKept();
        Check.lay(y, 0, SHORTS, 1, 2, 1, 3, 4, -1, 5, 6, 1);
        due("three by three", y.family(0, SHORTS, 0, 3), 3);
        for (int i = 0; i < 3; i++) {
            due("kind of " + i, y.told(i, 7), 2 * i + 1);
            due("number of " + i, y.told(i, 3), 2 * i + 2);
            due("way of " + i, y.told(i, 8), i == 1 ? 0 : 2);
        }
    }

    private static void familyRefuses() {
        CausewayKept x = new CausewayKept();
        Check.lay(x, 0, BYTES, 0, 0, 1);
        int[][] rows = {{-1, 0, 0, 1, -2}, {4, 0, 0, 1, -2}, {0, -1, 0, 1, -2}, {0, 3, 0, 1, -2}, {0, 0, 0, -1, -2},
            {0, 0, 0, 6, -2}, {1, -1, 0, 0, -2}, {0, 1, 0, 1, -13}, {0, 2, 9, 0, -13}, {1, 0, 0, 1, -11}, {1, 2, 9, 0, -11},
            {0, 0, 1, 1, -12}, {0, 0, 0, 1, 1}};
        for (int[] r : rows) {
            due("family(" + r[0] + ", " + r[1] + ", " + r[2] + ", " + r[3] + ")",
                x.family(r[0], r[1], r[2], r[3]), r[4]);
        }
        due("one came", x.count(0), 1);
    }

    private static void takens() {
        int[] under = {1, 1 + 2, 1 + 4, 1 + 2 + 8, 1 + 4 + 16, 1 + 32};
        for (int kind = 0; kind < 6; kind++) {
            CausewayKept x = new CausewayKept();
            x.person(kind, 9 - kind, 1);
            for (int k = 0; k < 6; k++) {
                due("kind " + kind + " taken for " + k, x.taken(0, k), (under[kind] >> k & 1) == 1 ? 9 - kind : -13);
            }
            due("taken(0, -1)", x.taken(0, -1), -2);
            due("taken(0, 6)", x.taken(0, 6), -2);
            due("taken(1, 0)", x.taken(1, 0), -11);
            due("taken(-1, 0)", x.taken(-1, 0), -11);
            due("BAD goes ahead", x.taken(1, 6), -2);
            due("far off", x.taken(MIN, MAX), -2);
        }
    }
}
