/** The sentences of promises 25 to 29: sheet, cell, copy, family, taken. */
final class HostSentences {
    private static final int MIN = Integer.MIN_VALUE, MAX = Integer.MAX_VALUE;
    private static final int MISSING = -1, BYTES = 0, SHORTS = 1, INTS = 2;

    private final Sentences doc;

    HostSentences(Sentences doc) {
        this.doc = doc;
    }

    void tell() {
        sheetBecomesARow();
        sheetIsMissing();
        sheetIsBad();
        sheetOfMoreThanForty();
        sheetBelowZero();
        sortsThatAre();
        hostsNumbers();

        cellBecomes();
        cellIsBad();
        cellOfNothing();
        cellOutside();

        copyComes();
        copyAsTheyWere();
        copyIsBad();
        copyOfNothing();
        copyOfUnlikeSorts();
        copyOutside();

        familyThreeByThree();
        familyOfSoMany();
        familyLeavesOut();
        familyIsBad();
        familyOfAnotherSort();
        familyOfNothing();
        familyOutside();

        takenForAKind();
        takenIsBad();
        takenOfNothing();
        takenOfAnotherKind();
    }

    /** One at home at this place, so that a sheet of it tells how one goes. */
    private static CausewayKept athome(int place) {
        CausewayKept x = new CausewayKept();
        x.person(0, 0, 1);
        x.set(5, 0, place);
        return x;
    }

    /** What a number of a sheet is, of 0 .. 31, told by where one at home would be; -9: none of these. */
    private static int itemOf(CausewayKept x, int sheet, int i, int sort) {
        x.sheet(3, sort, 1);
        x.copy(sheet, i, 3, 0, 1);
        long bits = x.places(3, 0);
        return Long.bitCount(bits) == 1 ? Long.numberOfTrailingZeros(bits) : -9;
    }

    private void rowIs(CausewayKept x, int sheet, int sort, int... want) {
        for (int i = 0; i < want.length; i++) {
            doc.due("item " + i + " of sheet " + sheet, itemOf(x, sheet, i, sort), want[i]);
        }
        doc.due("no item behind", x.copy(sheet, want.length, sheet, want.length, 1), -12);
    }

    // ---- promise 25

    private void sheetBecomesARow() {
        doc.of(25, "A SHEET becomes a row of n of a sort, all 0");
        CausewayKept x = athome(0);
        for (int sort = BYTES; sort <= INTS; sort++) {
            Check.lay(x, 0, sort, 5, 6, 7);
            doc.due("sheet(0, " + sort + ", 3)", x.sheet(0, sort, 3), 1);
            rowIs(x, 0, sort, 0, 0, 0);
            Check.lay(x, 0, sort, 5, 6, 7);
            doc.due("sheet(0, " + sort + ", 1)", x.sheet(0, sort, 1), 1);
            rowIs(x, 0, sort, 0);
            doc.due("sheet(0, " + sort + ", 5)", x.sheet(0, sort, 5), 1);
            rowIs(x, 0, sort, 0, 0, 0, 0, 0);
        }
        doc.due("sheet(0, 0, 0)", x.sheet(0, BYTES, 0), 1);
        doc.due("a row of nothing", x.cell(0, 0, 0), -12);
        for (int sheet = 0; sheet <= 3; sheet++) {
            doc.due("sheet(" + sheet + ", 2, 40)", x.sheet(sheet, INTS, 40), 1);
            doc.due("the fortieth", x.cell(sheet, 39, 0), 1);
            doc.due("no more", x.cell(sheet, 40, 0), -12);
        }
    }

    private void sheetIsMissing() {
        doc.of(25, "or missing (sort -1: n does not matter): 1.");
        CausewayKept x = athome(0);
        for (int n : new int[] {MIN, -1, 0, 1, 40, 41, MAX}) {
            Check.lay(x, 0, INTS, 5);
            doc.due("sheet(0, -1, " + n + ")", x.sheet(0, MISSING, n), 1);
            doc.due("is missing", x.cell(0, 0, 0), -11);
            doc.due("missing once more", x.sheet(0, MISSING, n), 1);
        }
        doc.due("a row again", x.sheet(0, INTS, 1), 1);
        rowIs(x, 0, INTS, 0);
    }

    private void sheetIsBad() {
        doc.of(25, "BAD: no such SHEET, sort;");
        CausewayKept x = athome(0);
        for (int sheet : new int[] {MIN, -1, 4, MAX}) {
            doc.due("sheet(" + sheet + ", 0, 1)", x.sheet(sheet, 0, 1), -2);
            doc.due("sheet(" + sheet + ", -1, 1)", x.sheet(sheet, -1, 1), -2);
            doc.due("ahead of -14: sheet(" + sheet + ", 0, -1)", x.sheet(sheet, 0, -1), -2);
        }
        Check.lay(x, 0, INTS, 5);
        for (int sort : new int[] {MIN, -2, 3, MAX}) {
            doc.due("sheet(0, " + sort + ", 1)", x.sheet(0, sort, 1), -2);
            doc.due("ahead of -14: sheet(0, " + sort + ", -1)", x.sheet(0, sort, -1), -2);
        }
        rowIs(x, 0, INTS, 5);
    }

    private void sheetOfMoreThanForty() {
        doc.of(25, "n above 40;");
        CausewayKept x = athome(0);
        Check.lay(x, 0, INTS, 5);
        for (int n : new int[] {41, 42, 1000, MAX}) {
            for (int sort = BYTES; sort <= INTS; sort++) {
                doc.due("sheet(0, " + sort + ", " + n + ")", x.sheet(0, sort, n), -2);
            }
        }
        rowIs(x, 0, INTS, 5);
        doc.due("sheet(0, 2, 40)", x.sheet(0, INTS, 40), 1);
    }

    private void sheetBelowZero() {
        doc.of(25, "-14.");
        CausewayKept x = athome(0);
        Check.lay(x, 0, INTS, 5);
        for (int n : new int[] {MIN, -41, -1}) {
            for (int sort = BYTES; sort <= INTS; sort++) {
                doc.due("sheet(0, " + sort + ", " + n + ")", x.sheet(0, sort, n), -14);
            }
        }
        rowIs(x, 0, INTS, 5);
        doc.due("sheet(0, 2, 0)", x.sheet(0, INTS, 0), 1);
    }

    private void sortsThatAre() {
        doc.term(25, ": of sort 0 bytes, 1 shorts, 2 ints.");
        CausewayKept x = athome(5);
        int[][] values = {{261, 5, -9, -9}, {65541, 5, 5, -9}, {5, 5, 5, 5}};
        for (int[] v : values) {
            for (int sort = BYTES; sort <= INTS; sort++) {
                Check.lay(x, 0, sort, v[0]);
                doc.due(v[0] + " of sort " + sort, itemOf(x, 0, 0, sort), v[1 + sort]);
            }
        }
    }

    private void hostsNumbers() {
        doc.term(25, "the host's: -11 nothing where something is asked, -12 a place outside, -13 a thing of another sort or KIND,"
            + " -14 a size below 0.");
        CausewayKept x = athome(0);
        doc.due("a cell of a missing sheet", x.cell(0, 0, 0), -11);
        doc.due("taken, nobody", x.taken(1, 0), -11);
        x.sheet(0, BYTES, 1);
        x.sheet(1, SHORTS, 1);
        doc.due("a cell outside", x.cell(0, 1, 0), -12);
        doc.due("a copy between sorts", x.copy(0, 0, 1, 0, 1), -13);
        doc.due("a walker taken for a clerk", x.taken(0, 1), -13);
        doc.due("a sheet of -1", x.sheet(0, BYTES, -1), -14);
    }

    // ---- promise 26

    private void cellBecomes() {
        doc.of(26, "Item i of a SHEET becomes v (of bytes, shorts its lowest 8, 16 bits): 1.");
        CausewayKept x = athome(0);
        x.sheet(0, INTS, 40);
        doc.due("cell(0, 0, 7)", x.cell(0, 0, 7), 1);
        doc.due("cell(0, 39, 8)", x.cell(0, 39, 8), 1);
        doc.due("item 0", itemOf(x, 0, 0, INTS), 7);
        doc.due("item 1", itemOf(x, 0, 1, INTS), 0);
        doc.due("item 38", itemOf(x, 0, 38, INTS), 0);
        doc.due("item 39", itemOf(x, 0, 39, INTS), 8);
        // v, and what it is of bytes, shorts, ints
        int[][] rows = {{256, 0, -9, -9}, {256 + 31, 31, -9, -9}, {-256, 0, -9, -9}, {-225, 31, -9, -9}, {65536, 0, 0, -9},
            {65536 + 31, 31, 31, -9}, {-65536, 0, 0, -9}, {MIN, 0, 0, -9}, {MIN + 31, 31, 31, -9}, {MAX - 224, 31, -9, -9},
            {128, -9, -9, -9}, {-1, -9, -9, -9}, {31, 31, 31, 31}};
        for (int[] r : rows) {
            for (int sort = BYTES; sort <= INTS; sort++) {
                x.sheet(1, sort, 1);
                doc.due("cell(1, 0, " + r[0] + ") of sort " + sort, x.cell(1, 0, r[0]), 1);
                doc.due("what it is", itemOf(x, 1, 0, sort), r[1 + sort]);
            }
        }
    }

    private void cellIsBad() {
        doc.of(26, "BAD: no such SHEET;");
        CausewayKept x = athome(0);
        for (int sheet : new int[] {MIN, -1, 4, MAX}) {
            doc.due("cell(" + sheet + ", 0, 1)", x.cell(sheet, 0, 1), -2);
            doc.due("cell(" + sheet + ", -1, 1)", x.cell(sheet, -1, 1), -2);
        }
    }

    private void cellOfNothing() {
        doc.of(26, "-11;");
        CausewayKept x = athome(0);
        for (int sheet = 0; sheet <= 3; sheet++) {
            for (int i : new int[] {MIN, -1, 0, 40, MAX}) {
                doc.due("cell(" + sheet + ", " + i + ", 1)", x.cell(sheet, i, 1), -11);
            }
        }
    }

    private void cellOutside() {
        doc.of(26, "-12.");
        CausewayKept x = athome(0);
        Check.lay(x, 0, INTS, 5, 6);
        for (int i : new int[] {MIN, -1, 2, 3, 39, 40, MAX}) {
            doc.due("cell(0, " + i + ", 1)", x.cell(0, i, 1), -12);
        }
        rowIs(x, 0, INTS, 5, 6);
        x.sheet(0, INTS, 0);
        doc.due("of a row of nothing", x.cell(0, 0, 1), -12);
    }

    // ---- promise 27

    private void copyComes() {
        doc.of(27, "n numbers of a SHEET, from item i on, come to another one's item j on");
        CausewayKept x = athome(0);
        Check.lay(x, 0, BYTES, 1, 2, 3, 4);
        Check.lay(x, 1, BYTES, 11, 12, 13, 14);
        doc.due("copy(0, 1, 1, 2, 2)", x.copy(0, 1, 1, 2, 2), 2);
        rowIs(x, 1, BYTES, 11, 12, 2, 3);
        rowIs(x, 0, BYTES, 1, 2, 3, 4);
        doc.due("copy(0, 0, 1, 0, 4)", x.copy(0, 0, 1, 0, 4), 4);
        rowIs(x, 1, BYTES, 1, 2, 3, 4);
        doc.due("copy(0, 3, 1, 0, 1)", x.copy(0, 3, 1, 0, 1), 1);
        rowIs(x, 1, BYTES, 4, 2, 3, 4);
        doc.due("none", x.copy(0, 0, 1, 0, 0), 0);
        doc.due("none, behind the last", x.copy(0, 4, 1, 4, 0), 0);
        rowIs(x, 1, BYTES, 4, 2, 3, 4);
        x.sheet(0, INTS, 40);
        x.sheet(1, INTS, 40);
        x.cell(0, 39, 9);
        doc.due("40", x.copy(0, 0, 1, 0, 40), 40);
        doc.due("the fortieth", itemOf(x, 1, 39, INTS), 9);
    }

    private void copyAsTheyWere() {
        doc.of(27, "(as they were): n.");
        CausewayKept x = athome(0);
        Check.lay(x, 0, INTS, 1, 2, 3, 4, 5);
        doc.due("forth over itself", x.copy(0, 0, 0, 1, 4), 4);
        rowIs(x, 0, INTS, 1, 1, 2, 3, 4);
        Check.lay(x, 0, INTS, 1, 2, 3, 4, 5);
        doc.due("back over itself", x.copy(0, 1, 0, 0, 4), 4);
        rowIs(x, 0, INTS, 2, 3, 4, 5, 5);
        doc.due("onto itself", x.copy(0, 0, 0, 0, 5), 5);
        rowIs(x, 0, INTS, 2, 3, 4, 5, 5);
    }

    private void copyIsBad() {
        doc.of(27, "BAD: no such SHEET;");
        CausewayKept x = athome(0);
        x.sheet(0, INTS, 2);
        for (int sheet : new int[] {MIN, -1, 4, MAX}) {
            doc.due("copy(" + sheet + ", 0, 0, 0, 1)", x.copy(sheet, 0, 0, 0, 1), -2);
            doc.due("copy(0, 0, " + sheet + ", 0, 1)", x.copy(0, 0, sheet, 0, 1), -2);
            doc.due("ahead of -11: copy(1, 0, " + sheet + ", 0, 1)", x.copy(1, 0, sheet, 0, 1), -2);
            doc.due("ahead of -12: copy(0, 9, " + sheet + ", 0, -1)", x.copy(0, 9, sheet, 0, -1), -2);
        }
    }

    private void copyOfNothing() {
        doc.of(27, "-11;");
        CausewayKept x = athome(0);
        x.sheet(0, INTS, 2);
        doc.due("from a missing one", x.copy(1, 0, 0, 0, 1), -11);
        doc.due("to a missing one", x.copy(0, 0, 1, 0, 1), -11);
        doc.due("between two of them", x.copy(1, 0, 2, 0, 1), -11);
        doc.due("from itself, missing", x.copy(3, 0, 3, 0, 0), -11);
        doc.due("none of it", x.copy(0, 0, 1, 0, 0), -11);
        doc.due("ahead of -12", x.copy(0, 9, 1, -1, -1), -11);
        doc.due("stays missing", x.cell(1, 0, 0), -11);
    }

    private void copyOfUnlikeSorts() {
        doc.of(27, "-13: they are of unlike sorts;");
        CausewayKept x = athome(0);
        for (int sort = BYTES; sort <= INTS; sort++) {
            Check.lay(x, sort, sort, 5, 6);
        }
        for (int from = 0; from <= 2; from++) {
            for (int to = 0; to <= 2; to++) {
                doc.due("copy(" + from + ", 0, " + to + ", 1, 1)", x.copy(from, 0, to, 1, 1), from == to ? 1 : -13);
                doc.due("none of it", x.copy(from, 0, to, 0, 0), from == to ? 0 : -13);
                doc.due("ahead of -12", x.copy(from, 9, to, 9, -1), from == to ? -12 : -13);
            }
        }
        for (int sort = BYTES; sort <= INTS; sort++) {
            rowIs(x, sort, sort, 5, 5);
        }
    }

    private void copyOutside() {
        doc.of(27, "-12 (also with n below 0).");
        CausewayKept x = athome(0);
        Check.lay(x, 0, INTS, 1, 2, 3);
        Check.lay(x, 1, INTS, 11, 12);
        int[][] rows = {{0, 0, 3}, {2, 0, 2}, {3, 0, 1}, {4, 0, 0}, {-1, 0, 1}, {-1, 0, 0}, {0, 1, 2}, {0, 2, 1}, {0, 3, 0}, {0, -1, 1},
            {0, -1, 0}, {0, 0, -1}, {1, 1, -1}, {0, 0, MIN}, {0, 0, MAX}, {MAX, 0, 1}, {0, MAX, 1}, {MAX, MAX, MAX}, {MIN, 0, 1},
            {0, MIN, 1}, {MIN, MIN, MIN}, {2, 1, MAX}, {MAX, 0, -1}, {1, 0, MAX}};
        for (int[] r : rows) {
            doc.due("copy(0, " + r[0] + ", 1, " + r[1] + ", " + r[2] + ")", x.copy(0, r[0], 1, r[1], r[2]), -12);
        }
        rowIs(x, 1, INTS, 11, 12);
        doc.due("none, behind the last", x.copy(0, 3, 1, 2, 0), 0);
        doc.due("the last two", x.copy(0, 1, 1, 0, 2), 2);
        rowIs(x, 1, INTS, 2, 3);
    }

    // ---- promise 28

    private void familyThreeByThree() {
        doc.of(28, "PEOPLE by a SHEET that is taken for one of a sort: from one on, three by three (as of person()),");
        for (int sort = BYTES; sort <= INTS; sort++) {
            CausewayKept x = new CausewayKept();
            Check.lay(x, sort, sort, 9, 9, 1, 2, 1, 3, 4, -1, 5, 9, 1);
            doc.due("family(" + sort + ", " + sort + ", 2, 3)", x.family(sort, sort, 2, 3), 3);
            for (int one = 0; one < 3; one++) {
                doc.due("kind of " + one, x.told(one, 7), 2 * one + 1);
                doc.due("number of " + one, x.told(one, 3), one == 2 ? 9 : 2 * one + 2);
                doc.due("way of " + one, x.told(one, 8), one == 1 ? 0 : 2);
                doc.due("at of " + one, x.told(one, 5), one == 1 ? 31 : 0);
                doc.due("how of " + one, x.told(one, 6), 0);
            }
            doc.due("three came", x.count(0), 3);
        }
    }

    private void familyOfSoMany() {
        doc.of(28, "n of them (0 .. 5)");
        for (int n = 0; n <= 5; n++) {
            CausewayKept x = new CausewayKept();
            x.sheet(0, INTS, 40);
            for (int i = 27; i < 40; i += 3) {
                x.cell(0, i, 1);
            }
            doc.due("family(0, 2, 25, " + n + ")", x.family(0, INTS, 25, n), n);
            doc.due("so many came", x.count(0), n);
        }
        CausewayKept x = new CausewayKept();
        x.sheet(0, INTS, 3);
        for (int from : new int[] {MIN, -1, 3, 4, MAX}) {
            doc.due("none from " + from, x.family(0, INTS, from, 0), 0);
        }
        doc.due("-1 of them", x.family(0, INTS, 0, -1), -2);
        doc.due("6 of them", x.family(0, INTS, 0, 6), -2);
    }

    private void familyLeavesOut() {
        doc.of(28, ": how many came (others are left out).");
        CausewayKept x = new CausewayKept();
        Check.lay(x, 0, INTS, -1, 0, 1, 6, 0, 1, 0, -1, 1, 0, 10, 1, 0, 0, 0, 0, 0, 2, 5, 9, -1);
        doc.due("five of no kind, number, way", x.family(0, INTS, 0, 5), 0);
        doc.due("nobody came", x.count(0), 0);
        doc.due("the last of them alone", x.family(0, INTS, 6, 5), 1);
        doc.due("that one", x.told(0, 7), 5);
        for (int i = 1; i < 4; i++) {
            x.person(0, 0, 1);
        }
        Check.lay(x, 1, INTS, 1, 1, 1, 2, 2, 1);
        doc.due("room for one of two", x.family(1, INTS, 0, 2), 1);
        doc.due("the first came", x.told(4, 7), 1);
        doc.due("room for none", x.family(1, INTS, 0, 2), 0);
        doc.due("five", x.count(0), 5);
    }

    private void familyIsBad() {
        doc.of(28, "BAD: no such SHEET, sort, n;");
        CausewayKept x = new CausewayKept();
        Check.lay(x, 0, INTS, 0, 0, 1);
        for (int sheet : new int[] {MIN, -1, 4, MAX}) {
            doc.due("family(" + sheet + ", 2, 0, 1)", x.family(sheet, 2, 0, 1), -2);
        }
        for (int sort : new int[] {MIN, -1, 3, MAX}) {
            doc.due("family(0, " + sort + ", 0, 1)", x.family(0, sort, 0, 1), -2);
            doc.due("ahead of -11: family(1, " + sort + ", 0, 1)", x.family(1, sort, 0, 1), -2);
        }
        for (int n : new int[] {MIN, -1, 6, MAX}) {
            doc.due("family(0, 2, 0, " + n + ")", x.family(0, 2, 0, n), -2);
            doc.due("ahead of -13: family(0, 1, 0, " + n + ")", x.family(0, 1, 0, n), -2);
            doc.due("ahead of -11: family(1, 2, 0, " + n + ")", x.family(1, 2, 0, n), -2);
        }
        doc.due("nobody came", x.count(0), 0);
    }

    private void familyOfAnotherSort() {
        doc.of(28, "-13;");
        CausewayKept x = new CausewayKept();
        for (int sort = BYTES; sort <= INTS; sort++) {
            Check.lay(x, sort, sort, 0, 0, 1);
        }
        for (int sheet = 0; sheet <= 2; sheet++) {
            for (int sort = 0; sort <= 2; sort++) {
                doc.due("family(" + sheet + ", " + sort + ", 0, 1)", x.family(sheet, sort, 0, 1), sheet == sort ? 1 : -13);
                doc.due("none of them", x.family(sheet, sort, 0, 0), sheet == sort ? 0 : -13);
                doc.due("ahead of -12", x.family(sheet, sort, -1, 1), sheet == sort ? -12 : -13);
            }
        }
        doc.due("three came", x.count(0), 3);
    }

    private void familyOfNothing() {
        doc.of(28, "-11;");
        CausewayKept x = new CausewayKept();
        for (int sort = BYTES; sort <= INTS; sort++) {
            for (int n = 0; n <= 5; n++) {
                doc.due("family(3, " + sort + ", 0, " + n + ")", x.family(3, sort, 0, n), -11);
                doc.due("ahead of -12", x.family(3, sort, -1, n), -11);
            }
        }
        x.sheet(3, INTS, 3);
        x.sheet(3, MISSING, 3);
        doc.due("missing again", x.family(3, INTS, 0, 1), -11);
    }

    private void familyOutside() {
        doc.of(28, "-12: what stood ahead came.");
        // from, n, how many came
        int[][] rows = {{0, 3, 2}, {0, 5, 2}, {3, 2, 1}, {2, 2, 1}, {4, 2, 1}, {5, 1, 0}, {6, 1, 0}, {7, 1, 0}, {8, 1, 0}, {40, 1, 0},
            {41, 1, 0}, {-1, 1, 0}, {-3, 2, 0}, {MIN, 5, 0}, {MAX, 5, 0}, {MAX - 2, 2, 0}};
        for (int[] r : rows) {
            CausewayKept x = new CausewayKept();
            Check.lay(x, 0, INTS, 1, 1, 1, 1, 1, 1, 1);
            doc.due("family(0, 2, " + r[0] + ", " + r[1] + ") of 7", x.family(0, INTS, r[0], r[1]), -12);
            doc.due("came", x.count(0), r[2]);
        }
        CausewayKept x = new CausewayKept();
        x.sheet(0, INTS, 0);
        doc.due("of a row of nothing", x.family(0, INTS, 0, 1), -12);
        doc.due("none of nothing", x.family(0, INTS, 0, 0), 0);
        Check.lay(x, 1, INTS, 9, 9, 9);
        doc.due("what is left out, then outside", x.family(1, INTS, 0, 2), -12);
        doc.due("nobody came", x.count(0), 0);
    }

    // ---- promise 29

    private static CausewayKept ofKind(int kind, int number) {
        CausewayKept x = new CausewayKept();
        x.person(kind, number, 1);
        return x;
    }

    private void takenForAKind() {
        doc.of(29, "One of PEOPLE taken for one of KIND k (0 .. 5), or one under that one (also by others between): the NUMBER.");
        int[][] under = {{0, 0}, {1, 1}, {2, 2}, {3, 3}, {4, 4}, {5, 5}, {1, 0}, {2, 0}, {5, 0}, {3, 1}, {4, 2}, {3, 0}, {4, 0}};
        for (int[] u : under) {
            for (int number : new int[] {0, 9}) {
                doc.due("kind " + u[0] + " of " + number + " taken for " + u[1], ofKind(u[0], number).taken(0, u[1]), number);
            }
        }
        CausewayKept x = ofKind(3, 4);
        x.person(4, 5, -1);
        x.set(3, 1, 6);
        doc.due("taken(1, 2)", x.taken(1, 2), 6);
        doc.due("taken(0, 1)", x.taken(0, 1), 4);
    }

    private void takenIsBad() {
        doc.of(29, "BAD: k;");
        CausewayKept x = ofKind(0, 3);
        for (int k : new int[] {MIN, -2, -1, 6, 7, MAX}) {
            doc.due("taken(0, " + k + ")", x.taken(0, k), -2);
            doc.due("ahead of -11: taken(1, " + k + ")", x.taken(1, k), -2);
        }
    }

    private void takenOfNothing() {
        doc.of(29, "-11: none such;");
        doc.due("of nobody", new CausewayKept().taken(0, 0), -11);
        CausewayKept x = ofKind(0, 3);
        for (int who : new int[] {MIN, -1, 1, 5, MAX}) {
            for (int k = 0; k <= 5; k++) {
                doc.due("taken(" + who + ", " + k + ")", x.taken(who, k), -11);
            }
        }
    }

    private void takenOfAnotherKind() {
        doc.of(29, "-13.");
        // kind by kind, those that it is not nor is under
        int[][] not = {{1, 2, 3, 4, 5}, {2, 3, 4, 5}, {1, 3, 4, 5}, {2, 4, 5}, {1, 3, 5}, {1, 2, 3, 4}};
        for (int kind = 0; kind <= 5; kind++) {
            for (int k : not[kind]) {
                doc.due("kind " + kind + " taken for " + k, ofKind(kind, 7).taken(0, k), -13);
            }
        }
    }
}
