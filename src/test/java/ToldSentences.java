/** The sentences of promises 17 to 24: tells, places, film, drawn, chance, image, back, count. */
final class ToldSentences {
    private static final int MIN = Integer.MIN_VALUE, MAX = Integer.MAX_VALUE;
    private static final int MISSING = -1, BYTES = 0, SHORTS = 1, INTS = 2;
    private static final int HOME = 0, ON = 1, SUNK = 2, OVER = 3;

    private final Sentences doc;

    ToldSentences(Sentences doc) {
        this.doc = doc;
    }

    void tell() {
        tellsFirst();
        tellsKinds();
        tellsNumbers();
        tellsDoubts();
        tellsSeas();
        tellsTexts();
        tellsIsBad();
        tellsOfNothing();
        tellsOfMoreThanTwenty();
        twentyAtMost();
        firstThatIsOtherwise();
        kindsAndNumbersOfOne();
        doubtsAndPlacesOfOne();
        seasAndTexts();

        placesTells();
        placesIsNo();

        filmTruly();
        filmOfTwenty();
        filmIsBad();

        drawnTells();
        drawnIsBad();
        drawnOfHours();
        drawnOfSeas();

        chanceInLowestTerms();
        chanceIsNo();
        seedsOneMore();

        imageIsKept();
        backIsAsInTheImage();
        backIsState();
        whatAnImageKeeps();

        countTells();
        countIsBad();
    }

    /** One at home or on it, by this rule, at 0; the sea takes nothing. */
    private static CausewayKept one(String rule, int how) {
        CausewayKept x = Check.ruled(rule);
        x.set(1, 0, 0);
        x.person(0, 0, 1);
        x.set(6, 0, how);
        return x;
    }

    // ---- promise 17

    private void tellsFirst() {
        doc.of(17, "TOLD of one: the first that is otherwise (what 0; NONE)");
        CausewayKept x = one("paces 1;treads 0;doubts 0;", ON);
        Check.lay(x, 0, INTS, 1, 2, 3);
        doc.due("none", x.tells(0, 0, 0), -1);
        Check.lay(x, 0, INTS, 0, 2, 3);
        doc.due("the first", x.tells(0, 0, 0), 0);
        Check.lay(x, 0, INTS, 1, 2, 4);
        doc.due("the last", x.tells(0, 0, 0), 2);
        Check.lay(x, 0, INTS, 1, 9, 9);
        doc.due("the first of two", x.tells(0, 0, 0), 1);
        x.sheet(0, INTS, 0);
        doc.due("of a sheet of nothing", x.tells(0, 0, 0), -1);
        doc.due("one stays there", x.told(0, 5), 0);
    }

    private void tellsKinds() {
        doc.of(17, "KINDS (1)");
        CausewayKept x = one("paces 6;treads 0;doubts 0;", ON);
        x.set(3, 0, 1);
        x.set(4, 0, 30);
        x.person(0, 0, 1);
        // 6; half; 1 less; half and 1; 1 less, or as much where it meets anybody; twice, 9 at most
        int[][] alone = {{6, 1}, {3, 2}, {5, 4 + 16}, {4, 8}, {9, 32}, {7, 0}};
        for (int[] a : alone) {
            Check.lay(x, 0, INTS, a[0]);
            doc.due("alone, to " + a[0], x.tells(0, 0, 1), a[1]);
        }
        x.starts(1);
        int[][] meeting = {{6, 1 + 16}, {3, 2}, {5, 4}, {4, 8}, {9, 32}, {0, 0}};
        for (int[] m : meeting) {
            Check.lay(x, 0, INTS, m[0]);
            doc.due("meeting, to " + m[0], x.tells(0, 0, 1), m[1]);
        }
        x.sheet(0, INTS, 0);
        doc.due("of a sheet of nothing", x.tells(0, 0, 1), 63);
        doc.due("the kind stays", x.told(0, 7), 0);
    }

    private void tellsNumbers() {
        doc.of(17, "NUMBERS (2)");
        CausewayKept x = one("paces number;treads 0;doubts 0;", ON);
        x.set(3, 0, 5);
        for (int number = 0; number <= 9; number++) {
            Check.lay(x, 0, INTS, number);
            doc.due("to " + number, x.tells(0, 0, 2), 1 << number);
        }
        Check.lay(x, 0, INTS, 10);
        doc.due("to 10", x.tells(0, 0, 2), 0);
        x.sheet(0, INTS, 0);
        doc.due("of a sheet of nothing", x.tells(0, 0, 2), 1023);
        doc.due("the number stays", x.told(0, 3), 5);
    }

    /** How many of 0 .. 99 a name could be, and the least of them, as tells() answers them from there on. */
    private void howManyAndTheLeast(String name, int from) {
        for (int v : new int[] {0, 1, 50, 98, 99}) {
            CausewayKept x = one("paces 1 + (" + name + " = " + v + ");treads 99;doubts 0;", ON);
            Check.lay(x, 0, INTS, 2);
            doc.due("only a " + name + " of " + v, x.tells(0, 0, from), 1);
            doc.due("which is the least", x.tells(0, 0, from + 1), v);
            Check.lay(x, 0, INTS, 1);
            doc.due("any but a " + name + " of " + v, x.tells(0, 0, from), 99);
            doc.due("the least of those", x.tells(0, 0, from + 1), v == 0 ? 1 : 0);
            Check.lay(x, 0, INTS, 3);
            doc.due("no " + name, x.tells(0, 0, from), 0);
            doc.due("none is least", x.tells(0, 0, from + 1), -1);
        }
        CausewayKept more = one("paces 1 + (99 < " + name + " or " + name + " < 0);treads 99;doubts 0;", ON);
        Check.lay(more, 0, INTS, 2);
        doc.due("no " + name + " beyond", more.tells(0, 0, from), 0);
        doc.due("none beyond is least", more.tells(0, 0, from + 1), -1);
        more.sheet(0, INTS, 0);
        doc.due("of a sheet of nothing", more.tells(0, 0, from), 100);
        doc.due("of a sheet of nothing, the least", more.tells(0, 0, from + 1), 0);
    }

    private void tellsDoubts() {
        doc.of(17, "DOUBTS: how many (3), the least (4; NONE)");
        howManyAndTheLeast("doubt", 3);
        CausewayKept x = one("paces 0;treads 0;doubts 0;", ON);
        x.set(4, 0, 7);
        x.sheet(0, INTS, 1);
        doc.due("any", x.tells(0, 0, 3), 100);
        doc.due("the doubt stays", x.told(0, 4), 7);
    }

    private void tellsSeas() {
        doc.of(17, "SEAS: how many (5), the least (6; NONE)");
        howManyAndTheLeast("sea", 5);
        CausewayKept x = one("paces 0;treads 0;doubts 0;", ON);
        x.set(1, 0, 7);
        x.sheet(0, INTS, 1);
        doc.due("any", x.tells(0, 0, 5), 100);
        doc.due("the sea stays", x.told(0, 1), 7);
    }

    private void tellsTexts() {
        doc.of(17, "TEXTS (7).");
        CausewayKept x = one("paces 1;treads 0;doubts 0;", ON);
        Check.lay(x, 0, INTS, 3);
        doc.due("two texts, to 3", x.tells(0, 0, 7), 1);
        for (int i = 2; i <= 5; i++) {
            Check.read(x, "paces " + (i == 5 ? 9 : 1) + ";treads 0;doubts 0;");
        }
        int[][] rows = {{3, 1}, {1, 2 + 4 + 8 + 16}, {9, 32}, {2, 0}};
        for (int[] r : rows) {
            Check.lay(x, 0, INTS, r[0]);
            doc.due("six texts, to " + r[0], x.tells(0, 0, 7), r[1]);
        }
        x.sheet(0, INTS, 0);
        doc.due("of a sheet of nothing", x.tells(0, 0, 7), 63);
        doc.due("the rule stays", x.count(5), 1);
    }

    private void tellsIsBad() {
        doc.of(17, "BAD: SHEET, none such, what;");
        CausewayKept x = one("paces 1;treads 0;doubts 0;", ON);
        x.sheet(0, INTS, 1);
        for (int sheet : new int[] {MIN, -1, 4, MAX}) {
            doc.due("tells(" + sheet + ", 0, 0)", x.tells(sheet, 0, 0), -2);
        }
        for (int who : new int[] {MIN, -1, 1, 5, MAX}) {
            doc.due("tells(0, " + who + ", 0)", x.tells(0, who, 0), -2);
            doc.due("ahead of -11: tells(1, " + who + ", 0)", x.tells(1, who, 0), -2);
        }
        for (int what : new int[] {MIN, -1, 8, MAX}) {
            doc.due("tells(0, 0, " + what + ")", x.tells(0, 0, what), -2);
            doc.due("ahead of -11: tells(1, 0, " + what + ")", x.tells(1, 0, what), -2);
        }
        doc.due("tells(3, 0, 7)", x.tells(3, 0, 7), -11);
    }

    private void tellsOfNothing() {
        doc.of(17, "-11;");
        CausewayKept x = one("paces 1;treads 0;doubts 0;", ON);
        for (int what = 0; what <= 7; what++) {
            for (int sheet = 0; sheet <= 3; sheet++) {
                doc.due("tells(" + sheet + ", 0, " + what + ")", x.tells(sheet, 0, what), -11);
            }
        }
        x.sheet(0, BYTES, 40);
        x.sheet(0, MISSING, 0);
        doc.due("missing again", x.tells(0, 0, 0), -11);
    }

    private void tellsOfMoreThanTwenty() {
        doc.of(17, "BAD: it tells more than 20.");
        CausewayKept x = one("paces 0;treads 0;doubts 0;", ON);
        for (int what = 0; what <= 7; what++) {
            x.sheet(0, BYTES, 21);
            doc.due("21, what " + what, x.tells(0, 0, what), -2);
            x.sheet(0, BYTES, 40);
            doc.due("40, what " + what, x.tells(0, 0, what), -2);
        }
        x.sheet(0, BYTES, 20);
        doc.due("20", x.tells(0, 0, 0), -1);
    }

    private void twentyAtMost() {
        doc.term(17, "TOLD: a SHEET tells where one is AT behind 1, 2, .. HOURS (20 at most):");
        CausewayKept x = one("paces 1;treads 0;doubts 0;", ON);
        int[] row = new int[20];
        for (int i = 0; i < 20; i++) {
            row[i] = i + 1;
        }
        for (int sort = BYTES; sort <= INTS; sort++) {
            Check.lay(x, 1, sort, row);
            doc.due("20 of sort " + sort, x.tells(1, 0, 0), -1);
            doc.due("the least doubt", x.tells(1, 0, 4), 0);
        }
        x.cell(1, 19, 21);
        doc.due("the twentieth is otherwise", x.tells(1, 0, 0), 19);
        x.set(0, 0, 999);
        x.cell(1, 19, 20);
        doc.due("past 999", x.tells(1, 0, 0), -1);
        x.sheet(1, INTS, 21);
        doc.due("21", x.tells(1, 0, 0), -2);
    }

    private void firstThatIsOtherwise() {
        doc.term(17, "the first (from 0) that is otherwise; NONE;");
        CausewayKept x = one("paces 1;treads 0;doubts 0;", ON);
        for (int i = 0; i < 20; i++) {
            x.sheet(0, BYTES, 20);
            for (int k = 0; k < 20; k++) {
                x.cell(0, k, k < i ? k + 1 : 0);
            }
            doc.due("otherwise from " + i + " on", x.tells(0, 0, 0), i);
        }
        int[][] ints = {{MIN, 0}, {MAX, 0}, {-1, 0}, {257, 0}, {65537, 0}, {1, -1}};
        for (int[] v : ints) {
            Check.lay(x, 0, INTS, v[0]);
            doc.due("an int of " + v[0], x.tells(0, 0, 0), v[1]);
        }
    }

    private void kindsAndNumbersOfOne() {
        doc.term(17, "KINDS (bits 0 .. 5), NUMBERS (bits 0 .. 9), of one;");
        CausewayKept x = one("paces 9 - number;treads 0;doubts 0;", ON);
        x.person(5, 9, 1);
        x.starts(1);
        Check.lay(x, 0, INTS, 0, 0);
        // of 9: a walker 0, a clerk 0, an old one 0 at least, a child 0, one of letters 0, a young one 0
        doc.due("kinds of 1", x.tells(0, 1, 1), 63);
        doc.due("numbers of 1", x.tells(0, 1, 2), 512);
        doc.due("kinds of 0, who has 9 to go", x.tells(0, 0, 1), 0);
        Check.lay(x, 0, INTS, 9, 18);
        doc.due("numbers of 1, a young one: 9 by 0 .. 4", x.tells(0, 1, 2), 31);
        doc.due("kinds of 0", x.tells(0, 0, 1), 1 + 2 + 8 + 32);
        doc.due("numbers of 0", x.tells(0, 0, 2), 1);
    }

    private void doubtsAndPlacesOfOne() {
        doc.term(17, "DOUBTS (of 0 .. 99: how many, the least), PLACES (bits 0 .. 31, as a long) one could be AT now,");
        CausewayKept x = one("paces 1;treads 0;doubts 0;", ON);
        Check.lay(x, 0, INTS, 1, 1);
        doc.due("sunk on 1: a doubt of 31 .. 99", x.tells(0, 0, 3), 69);
        doc.due("the least", x.tells(0, 0, 4), 31);
        Check.lay(x, 0, INTS, 1, 2);
        doc.due("not sunk: 0 .. 30", x.tells(0, 0, 3), 31);
        doc.due("the least", x.tells(0, 0, 4), 0);
        for (int place = 0; place <= 30; place++) {
            Check.lay(x, 0, INTS, place + 1);
            doc.due("places, to " + (place + 1), x.places(0, 0), place == 30 ? 3L << 30 : 1L << place);
        }
        Check.lay(x, 0, INTS, 0);
        doc.due("places, to 0", x.places(0, 0), 0);
        Check.lay(x, 0, INTS, 32);
        doc.due("places, to 32", x.places(0, 0), 0);
    }

    private void seasAndTexts() {
        doc.term(17, "SEAS (of 0 .. 99: how many, the least), TEXTS (bits), were they THE RULE, by which all would be so.");
        CausewayKept x = one("paces 1;treads 0;doubts 0;", ON);
        x.set(4, 0, 30);
        Check.lay(x, 0, INTS, 1, 2, 3);
        doc.due("seas 0 .. 9", x.tells(0, 0, 5), 10);
        doc.due("the least", x.tells(0, 0, 6), 0);
        Check.lay(x, 0, INTS, 1, 2, 2);
        doc.due("seas 10 .. 99", x.tells(0, 0, 5), 90);
        doc.due("the least", x.tells(0, 0, 6), 10);
        Check.read(x, "paces 1;treads 0;doubts 1;");
        Check.lay(x, 0, INTS, 1, 1);
        doc.due("text 2: sunk on 1", x.tells(0, 0, 7), 4);
        Check.lay(x, 0, INTS, 1, 2);
        doc.due("text 1: not sunk", x.tells(0, 0, 7), 2);
        Check.lay(x, 0, INTS, 1);
        doc.due("texts 1 and 2", x.tells(0, 0, 7), 6);
    }

    // ---- promise 18

    private void placesTells() {
        doc.of(18, "PLACES.");
        CausewayKept x = one("paces 0;treads 0;doubts 0;", HOME);
        for (int place : new int[] {0, 1, 30, 31}) {
            Check.lay(x, 0, INTS, place, place);
            doc.due("at home at " + place, x.places(0, 0), 1L << place);
        }
        for (int v : new int[] {MIN, -1, 32, 63, 64, MAX}) {
            Check.lay(x, 0, INTS, v);
            doc.due("at " + v, x.places(0, 0), 0);
        }
        x.sheet(0, INTS, 0);
        doc.due("of a sheet of nothing", x.places(0, 0), 4294967295L);
        x.sheet(0, BYTES, 20);
        doc.due("of 20", x.places(0, 0), 1);
        doc.due("one stays there", x.told(0, 5), 0);
    }

    private void placesIsNo() {
        doc.of(18, "NO: all that tells() refuses.");
        CausewayKept x = one("paces 0;treads 0;doubts 0;", HOME);
        x.sheet(0, BYTES, 21);
        x.sheet(1, INTS, 40);
        x.sheet(2, SHORTS, 1);
        int[][] refused = {{-1, 0}, {4, 0}, {MIN, 0}, {MAX, 0}, {2, -1}, {2, 1}, {2, MIN}, {2, MAX}, {3, 0}, {0, 0}, {1, 0}};
        for (int[] r : refused) {
            doc.due("places(" + r[0] + ", " + r[1] + ")", x.places(r[0], r[1]), CausewayKept.NO);
        }
        doc.due("places(2, 0)", x.places(2, 0), 1);
    }

    // ---- promise 19

    private void filmTruly() {
        doc.of(19, "A SHEET truly becomes where one is AT behind 1, .., n HOURS");
        CausewayKept x = one("paces 3;treads 0;doubts 0;", ON);
        Check.lay(x, 2, INTS, 7, 7, 7, 7, 7);
        doc.due("film(2, 0, 2)", x.film(2, 0, 2), 2);
        doc.due("where one is", x.tells(2, 0, 0), -1);
        doc.due("two numbers", x.cell(2, 2, 0), -12);
        x.sheet(3, BYTES, 2);
        doc.due("of bytes", x.copy(2, 0, 3, 0, 2), 2);
        doc.due("one stays there", x.told(0, 5), 0);
        doc.due("no hour has gone", x.told(0, 0), 0);
        x.hour();
        doc.due("it is kept: 3 and not 6 first", x.tells(2, 0, 0), 0);
        x.set(5, 0, 0);
        doc.due("3, then 6", x.tells(2, 0, 0), -1);
    }

    private void filmOfTwenty() {
        doc.of(19, "(n 0 .. 20; bytes): n.");
        CausewayKept x = one("paces 1;treads 0;doubts 0;", ON);
        for (int n = 0; n <= 20; n++) {
            doc.due("film(0, 0, " + n + ")", x.film(0, 0, n), n);
            if (n > 0) {
                doc.due("its last", x.cell(0, n - 1, 0), 1);
            }
            doc.due("no more", x.cell(0, n, 0), -12);
        }
        doc.due("film over a longer row", x.film(0, 0, 0), 0);
        doc.due("nothing in it", x.cell(0, 0, 0), -12);
        x.sheet(1, BYTES, 1);
        doc.due("of bytes", x.copy(0, 0, 1, 0, 0), 0);
        x.set(0, 0, 990);
        doc.due("past 999", x.film(0, 0, 20), 20);
        doc.due("20 hours", x.tells(0, 0, 0), -1);
    }

    private void filmIsBad() {
        doc.of(19, "BAD.");
        CausewayKept x = one("paces 1;treads 0;doubts 0;", ON);
        Check.lay(x, 0, INTS, 1, 2, 4);
        for (int sheet : new int[] {MIN, -1, 4, MAX}) {
            doc.due("film(" + sheet + ", 0, 1)", x.film(sheet, 0, 1), -2);
        }
        for (int who : new int[] {MIN, -1, 1, 5, MAX}) {
            doc.due("film(0, " + who + ", 1)", x.film(0, who, 1), -2);
        }
        for (int n : new int[] {MIN, -1, 21, 40, MAX}) {
            doc.due("film(0, 0, " + n + ")", x.film(0, 0, n), -2);
        }
        doc.due("the sheet stays", x.tells(0, 0, 0), 2);
        doc.due("a missing one too", x.film(1, 1, 1), -2);
        doc.due("is missing", x.cell(1, 0, 0), -11);
    }

    // ---- promises 20 and 21

    /** One at 31 who is over by the first hour of which this is true. */
    private static CausewayKept overBy(String condition) {
        CausewayKept x = one("paces " + condition + ";treads 0;doubts 0;", ON);
        x.set(5, 0, 31);
        return x;
    }

    private void drawnTells() {
        doc.of(20, "DRAWN.");
        doc.due("of nobody", new CausewayKept().drawn(1, 40), 0);
        CausewayKept x = overBy("1");
        doc.due("drawn(1, 0)", x.drawn(1, 0), 0);
        doc.due("drawn(1, 1)", x.drawn(1, 1), 1);
        doc.due("drawn(MIN, 40)", x.drawn(MIN, 40), 1);
        doc.due("drawn(MAX, 40)", x.drawn(MAX, 40), 1);
        x.set(6, 0, OVER);
        doc.due("over now", x.drawn(1, 0), 1);
    }

    private void drawnIsBad() {
        doc.of(20, "BAD: n.");
        CausewayKept x = overBy("1");
        for (int n : new int[] {MIN, -1, 41, MAX}) {
            for (int seed : new int[] {MIN, 0, MAX}) {
                doc.due("drawn(" + seed + ", " + n + ")", x.drawn(seed, n), -2);
            }
        }
    }

    private void drawnOfHours() {
        doc.term(20, "DRAWN by a SEED: n HOURS (0 .. 40), in thought,");
        CausewayKept x = overBy("hour = 39");
        doc.due("39 hours", x.drawn(1, 39), 0);
        doc.due("40 hours", x.drawn(1, 40), 1);
        x.set(0, 0, 999);
        doc.due("past 39", x.drawn(1, 40), 0);
        CausewayKept y = overBy("hour = 1038");
        y.set(0, 0, 999);
        doc.due("past 999, 39 hours", y.drawn(1, 39), 0);
        doc.due("past 999, 40 hours", y.drawn(1, 40), 1);
        doc.due("the hour stays", y.told(0, 0), 999);
        doc.due("the sea stays", y.told(0, 1), 0);
        doc.due("one stays on it", y.told(0, 6), ON);
        doc.due("places stay", y.told(0, 2), 30);
    }

    private void drawnOfSeas() {
        doc.term(20, "in each of which SEA is (z >>> 9) % 100, z being z * 1103515245 + 12345 (an int; SEED at first) anew for each:"
            + " how many are OVER then.");
        // 12345 by 512 is 24; the least int and 12345 is 2147495993, by 512 4194328; 0 less 1103502900 is 3191464396, by 512
        // 6233328; the greatest int gives 1043980748, by 512 2039024; 1 gives 1103527590, by 512 2155327
        int[][] first = {{0, 24}, {MIN, 28}, {-1, 28}, {MAX, 24}, {1, 27}};
        for (int[] f : first) {
            for (int sea = f[1] - 1; sea <= f[1] + 1; sea++) {
                doc.due("seed " + f[0] + ", sea " + sea, overBy("sea = " + sea).drawn(f[0], 1), sea == f[1] ? 1 : 0);
            }
        }
        // 1103527590 gives 2524885223, by 512 4931416
        doc.due("seed 1, sea 16 then", overBy("hour = 1 and sea = 16").drawn(1, 2), 1);
        doc.due("seed 1, sea 27 no more", overBy("hour = 1 and sea = 27").drawn(1, 2), 0);
        doc.due("no sea below 0", overBy("sea < 0").drawn(-1, 40), 0);
        doc.due("no sea above 99", overBy("99 < sea").drawn(-1, 40), 0);
        doc.due("the sea as it is now is none of them", overBy("sea = 0 and hour = 0").drawn(1, 2), 0);
        CausewayKept x = Check.ruled("paces hour = number;treads 0;doubts 0;");
        for (int i = 0; i < 5; i++) {
            x.person(0, i, 1);
            x.set(5, i, 31);
            x.starts(i);
        }
        for (int n = 0; n <= 6; n++) {
            doc.due("one more each hour: " + n, x.drawn(7, n), Math.min(n, 5));
        }
    }

    private void chanceIs(CausewayKept x, int seed, int m, int k, long above, long below) {
        String call = "chance(" + seed + ", " + m + ", " + k + ", ";
        doc.due(call + "0)", x.chance(seed, m, k, 0), above);
        doc.due(call + "1)", x.chance(seed, m, k, 1), below);
    }

    private void chanceInLowestTerms() {
        doc.of(21, "IN m seeds: part 0 above, 1 below the line, in lowest terms.");
        CausewayKept x = overBy("hour = 0 and sea = 27");
        chanceIs(x, 1, 1, 1, 1, 1);
        chanceIs(x, 2, 1, 1, 0, 1);
        chanceIs(x, 2, 20, 2, 0, 1);
        chanceIs(x, 0, 2, 1, 1, 2);
        chanceIs(x, -1, 3, 1, 1, 3);
        CausewayKept both = overBy("hour = 0 and (sea = 27 or sea = 24)");
        chanceIs(both, 0, 2, 1, 1, 1);
        chanceIs(both, -1, 3, 1, 2, 3);
        chanceIs(both, -2, 4, 1, 1, 2);
        chanceIs(overBy("1"), 0, 20, 1, 1, 1);
        chanceIs(overBy("0"), 0, 20, 0, 1, 1);
        chanceIs(new CausewayKept(), 0, 20, 0, 1, 1);
        chanceIs(new CausewayKept(), 0, 20, 1, 0, 1);
    }

    private void chanceIsNo() {
        doc.of(21, "NO: m, k, part.");
        CausewayKept x = overBy("1");
        for (int m : new int[] {MIN, -1, 0, 21, MAX}) {
            doc.due("m " + m, x.chance(1, m, 1, 0), CausewayKept.NO);
        }
        for (int k : new int[] {MIN, -1, 6, MAX}) {
            doc.due("k " + k, x.chance(1, 1, k, 0), CausewayKept.NO);
        }
        for (int part : new int[] {MIN, -1, 2, MAX}) {
            doc.due("part " + part, x.chance(1, 1, 1, part), CausewayKept.NO);
        }
        doc.due("m 20, k 5", x.chance(1, 20, 5, 1), 1);
        doc.due("m 1, k 0", x.chance(1, 1, 0, 0), 1);
    }

    private void seedsOneMore() {
        doc.term(21, "IN m seeds (1 .. 20), SEED and each 1 more (an int), 12 HOURS: of these those by which that is k (0 .. 5) or"
            + " more.");
        chanceIs(overBy("hour = 11"), 3, 20, 1, 1, 1);
        chanceIs(overBy("hour = 12"), 3, 20, 1, 0, 1);
        // behind the greatest int, whose sea is 24, comes the least one, whose sea is 28
        chanceIs(overBy("hour = 0 and sea = 28"), MAX, 2, 1, 1, 2);
        chanceIs(overBy("hour = 0 and sea = 24"), MAX, 2, 1, 1, 2);
        // of the seeds 0 .. 19 the first alone gives a sea of 24, 19 alone one of 53: 19 * 1103515245 + 12345 is, of 32 bits,
        // 3786932816, by 512 7396353
        chanceIs(overBy("hour = 0 and sea = 24"), 0, 20, 1, 1, 20);
        chanceIs(overBy("hour = 0 and sea = 53"), 0, 20, 1, 1, 20);
        chanceIs(overBy("hour = 0 and sea = 53"), 0, 19, 1, 0, 1);
        CausewayKept five = Check.ruled("paces 1;treads 0;doubts 0;");
        for (int i = 0; i < 5; i++) {
            five.person(0, 0, 1);
            five.set(5, i, 31);
            chanceIs(five, 9, 1, i, 1, 1);
            chanceIs(five, 9, 1, i + 1, 0, 1);
            five.starts(i);
        }
        chanceIs(five, 9, 1, 5, 1, 1);
    }

    // ---- promises 22 and 23

    private void imageIsKept() {
        doc.of(22, "AN IMAGE is kept: how many PEOPLE.");
        CausewayKept x = new CausewayKept();
        for (int n = 0; n <= 5; n++) {
            doc.due("image() of " + n, x.image(), n);
            doc.due("it changes nothing", x.count(0), n);
            x.person(0, 0, 1);
        }
        x.set(0, 0, 7);
        x.image();
        x.set(0, 0, 8);
        x.back();
        doc.due("the last image is the one that is kept", x.told(0, 0), 7);
    }

    private void backIsAsInTheImage() {
        doc.of(23, "All that it keeps is as in THE IMAGE: how many PEOPLE.");
        CausewayKept x = new CausewayKept();
        x.person(4, 3, -1);
        x.image();
        for (int time = 0; time < 3; time++) {
            x.person(5, 9, 1);
            x.set(4, 0, 44);
            x.starts(0);
            doc.due("hour()", x.hour(), 0);
            doc.due("back()", x.back(), 1);
            doc.due("hour", x.told(0, 0), 0);
            doc.due("doubt", x.told(0, 4), 0);
            doc.due("at", x.told(0, 5), 31);
            doc.due("how", x.told(0, 6), HOME);
            doc.due("place 30", x.told(30, 2), 30);
            doc.due("who came since", x.told(1, 7), -1000);
        }
        CausewayKept nobody = new CausewayKept();
        nobody.image();
        for (int i = 0; i < 5; i++) {
            nobody.person(0, 0, 1);
        }
        doc.due("back to nobody", nobody.back(), 0);
        doc.due("there is room again", nobody.person(1, 1, 1), 0);
    }

    private void backIsState() {
        doc.of(23, "STATE: there is none.");
        CausewayKept x = new CausewayKept();
        x.person(0, 0, 1);
        doc.due("back()", x.back(), -3);
        doc.due("nothing changed", x.count(0), 1);
        x.image();
        doc.due("back() behind an image", x.back(), 1);
        doc.due("it is kept still", x.back(), 1);
    }

    private void whatAnImageKeeps() {
        doc.term(23, "AN IMAGE keeps FIRM of all PLACES, HOUR, SEA, NUMBERS, DOUBTS, where all are AT, HOW, THE RULE (PEOPLE that came"
            + " since go).");
        CausewayKept x = new CausewayKept();
        for (int i = 0; i < 5; i++) {
            x.person(5 - i, i, -1);
        }
        int[][] kept = {{0, 0, 999}, {1, 0, 99}, {2, 0, 99}, {2, 31, 0}, {3, 0, 9}, {3, 4, 8}, {4, 0, 99}, {4, 4, 98}, {5, 0, 31},
            {5, 4, 1}, {6, 0, 3}, {6, 4, 2}};
        Check.read(x, "paces 1;treads 0;doubts 0;");
        x.force(1);
        for (int[] k : kept) {
            x.set(k[0], k[1], k[2]);
        }
        x.image();
        x.force(0);
        for (int[] k : kept) {
            x.set(k[0], k[1], 1);
        }
        Check.lay(x, 2, INTS, 6);
        Check.read(x, "paces 2;treads 0;doubts 0;");
        Check.feed(x, "paces");
        doc.due("back()", x.back(), 5);
        for (int[] k : kept) {
            doc.due("told(" + k[1] + ", " + k[0] + ")", x.told(k[1], k[0]), k[2]);
        }
        doc.due("the rule", x.count(5), 1);
        doc.due("not the texts", x.count(3), 3);
        doc.due("not the tape", x.count(4), 5);
        doc.due("not the sheets", x.cell(2, 0, 6), 1);
        for (int i = 0; i < 5; i++) {
            doc.due("kind of " + i, x.told(i, 7), 5 - i);
            doc.due("way of " + i, x.told(i, 8), 0);
        }
    }

    // ---- promise 24

    private void countTells() {
        doc.of(24, "How many: 0 PEOPLE, 1 PLACES that are 0 FIRM, 2 HOUR, 3 TEXTS, 4 bytes of THE TAPE, 5 THE RULE.");
        CausewayKept x = new CausewayKept();
        int[] atFirst = {0, 0, 0, 1, 0, 0};
        for (int what = 0; what <= 5; what++) {
            doc.due("count(" + what + ") at first", x.count(what), atFirst[what]);
        }
        for (int i = 0; i < 5; i++) {
            x.person(0, 0, 1);
            Check.read(x, "paces 1;treads 0;doubts 0;");
        }
        for (int place = 0; place < 32; place++) {
            x.set(2, place, 1);
        }
        doc.due("1 firm is not 0", x.count(1), 0);
        for (int place = 0; place < 32; place++) {
            x.set(2, place, 0);
            doc.due("behind place " + place, x.count(1), place + 1);
        }
        x.set(0, 0, 999);
        x.force(5);
        Check.feed(x, " ".repeat(161));
        int[] most = {5, 32, 999, 6, 160, 5};
        for (int what = 0; what <= 5; what++) {
            doc.due("count(" + what + ") at most", x.count(what), most[what]);
        }
    }

    private void countIsBad() {
        doc.of(24, "BAD.");
        CausewayKept x = new CausewayKept();
        for (int what : new int[] {MIN, -2, -1, 6, 7, MAX}) {
            doc.due("count(" + what + ")", x.count(what), -2);
        }
    }
}
