/** Promises 17 to 24: tells, places, film, drawn, chance, image, back, count. */
public final class ToldTest {
    private static final Check CHECK = new Check("ToldTest");
    private static final int MISSING = -1, BYTES = 0, SHORTS = 1, INTS = 2;

    public static void main(String[] args) {
        firstOtherwise();
        kindsAndNumbers();
        doubtsAndSeas();
        theLastOnes();
        texts();
        emptyAndLong();
        refusals();
        places();
        films();
        filmRefuses();
        drawns();
        chances();
        images();
        imagesOfFew();
        counts();
        CHECK.end();
    }

    private static void due(String call, long got, long want) {
        CHECK.due(call, got, want);
    }

    /** A walker, out on the way from 0, by the rule at first: 3, 6, 9 and so on. */
    private static CausewayKept walker() {
        CausewayKept x = new CausewayKept();
        x.person(0, 0, 1);
        x.starts(0);
        return x;
    }

    private static void firstOtherwise() {
        CausewayKept x = walker();
        Check.lay(x, 0, INTS, 3, 6, 9);
        due("all so", x.tells(0, 0, 0), -1);
        Check.lay(x, 0, SHORTS, 3, 6, 8);
        due("the third", x.tells(0, 0, 0), 2);
        Check.lay(x, 0, BYTES, 4, 6, 9);
        due("the first", x.tells(0, 0, 0), 0);
        Check.lay(x, 3, BYTES, 256 + 3, 6 - 256);
        due("bytes, by their lowest 8 bits", x.tells(3, 0, 0), -1);
        Check.lay(x, 3, INTS, 256 + 3, 6 - 256);
        due("ints as they are", x.tells(3, 0, 0), 0);
        Check.lay(x, 3, INTS, 3, 6, 9, 12, 15, 18, 21, 24, 27, 30, 31, 31, 31, 31, 31, 31, 31, 31, 31, 31);
        due("20 hours", x.tells(3, 0, 0), -1);
        due("all in thought", x.told(0, 5), 0);
    }

    private static void kindsAndNumbers() {
        CausewayKept x = walker();
        Check.lay(x, 0, INTS, 3);
        due("3: a walker, a clerk, a child", x.tells(0, 0, 1), 1 + 2 + 8);
        due("any number", x.tells(0, 0, 2), 1023);
        Check.lay(x, 0, INTS, 2);
        due("2: an old one, one of letters", x.tells(0, 0, 1), 4 + 16);
        Check.lay(x, 0, INTS, 6);
        due("6: a young one", x.tells(0, 0, 1), 32);
        Check.lay(x, 0, INTS, 17);
        due("17: none", x.tells(0, 0, 1), 0);
        due("17: no number", x.tells(0, 0, 2), 0);
        x.person(3, 5, -1);
        x.starts(1);
        Check.lay(x, 0, INTS, 28, 25);
        due("3 a child: its number is of 0, 3, 6, 9", x.tells(0, 1, 2), 1 + 8 + 64 + 512);
        Check.lay(x, 0, INTS, 27);
        due("4 a child: of 1, 4, 7", x.tells(0, 1, 2), 2 + 16 + 128);
        due("the kind stays", x.told(1, 7), 3);
        due("the number stays", x.told(1, 3), 5);
    }

    private static void doubtsAndSeas() {
        CausewayKept x = walker();
        Check.lay(x, 0, INTS, 3, 6);
        // on 3, trod to 35: one of 34 has 36 by then, and sinks
        due("goes on: 0 .. 33", x.tells(0, 0, 3), 34);
        due("goes on: the least", x.tells(0, 0, 4), 0);
        Check.lay(x, 0, INTS, 3, 3);
        due("sunk: 34 .. 99", x.tells(0, 0, 3), 66);
        due("sunk: the least", x.tells(0, 0, 4), 34);
        Check.lay(x, 0, INTS, 3, 4);
        due("never", x.tells(0, 0, 3), 0);
        due("never: none is least", x.tells(0, 0, 4), -1);
        due("never: seas", x.tells(0, 0, 5), 0);
        due("never: no sea is least", x.tells(0, 0, 6), -1);
        // on 6, behind two hours: 33 of 35 less the washing of the first
        x.set(4, 0, 29);
        Check.lay(x, 0, INTS, 3, 6, 9);
        due("seas 0 .. 29", x.tells(0, 0, 5), 30);
        due("the least sea", x.tells(0, 0, 6), 0);
        Check.lay(x, 0, INTS, 3, 6, 6);
        due("seas 30 .. 99", x.tells(0, 0, 5), 70);
        due("the least sea that sinks one", x.tells(0, 0, 6), 30);
        due("the sea stays", x.told(0, 1), 10);
        due("the doubt stays", x.told(0, 4), 29);
    }

    private static void theLastOnes() {
        String[] names = {"doubt", "sea"};
        for (int k = 0; k < 2; k++) {
            CausewayKept x = Check.ruled("paces 1 + (" + names[k] + " = 99) + 2 * (99 < " + names[k] + ");treads 0;doubts 0;");
            x.person(0, 0, 1);
            x.starts(0);
            Check.lay(x, 0, INTS, 2);
            due("only a " + names[k] + " of 99", x.tells(0, 0, 3 + 2 * k), 1);
            due("which is the least", x.tells(0, 0, 4 + 2 * k), 99);
            Check.lay(x, 0, INTS, 3);
            due("no " + names[k] + " is more", x.tells(0, 0, 3 + 2 * k), 0);
            due("so none is least", x.tells(0, 0, 4 + 2 * k), -1);
        }
    }

    private static void texts() {
        CausewayKept x = walker();
        Check.lay(x, 0, INTS, 3);
        due("the only text", x.tells(0, 0, 7), 1);
        Check.read(x, "paces 2; treads 5; doubts 2;");
        Check.read(x, "paces 2 + (firm = 30); treads 0; doubts 99;");
        due("texts 0 and 2", x.tells(0, 0, 7), 5);
        Check.lay(x, 0, INTS, 3, 6);
        due("text 0", x.tells(0, 0, 7), 1);
        x.force(1);
        due("whichever is the rule", x.tells(0, 0, 7), 1);
        due("otherwise by the rule", x.tells(0, 0, 0), 0);
        due("the rule stays", x.count(5), 1);
    }

    private static void emptyAndLong() {
        CausewayKept x = walker();
        x.sheet(0, INTS, 0);
        int[] want = {-1, 63, 1023, 100, 0, 100, 0, 1};
        for (int what = 0; what <= 7; what++) {
            due("an empty sheet, " + what, x.tells(0, 0, what), want[what]);
        }
        due("an empty sheet, places", x.places(0, 0), 0xFFFFFFFFL);
        x.sheet(0, BYTES, 21);
        for (int what = 0; what <= 7; what++) {
            due("21 numbers, " + what, x.tells(0, 0, what), -2);
        }
        due("21 numbers, places", x.places(0, 0), CausewayKept.NO);
        x.sheet(0, BYTES, 20);
        x.set(6, 0, 0);
        due("20 hours at home", x.tells(0, 0, 0), -1);
    }

    private static void refusals() {
        CausewayKept x = walker();
        x.sheet(0, INTS, 1);
        int[][] wrong = {{-1, 0, 0, -2}, {4, 0, 0, -2}, {0, -1, 0, -2}, {0, 1, 0, -2}, {0, 0, -1, -2}, {0, 0, 8, -2},
            {1, 1, 0, -2}, {1, 0, 8, -2}, {1, 0, 0, -11}, {1, 0, 7, -11}, {Integer.MIN_VALUE, 0, 0, -2}};
        for (int[] w : wrong) {
            due("tells(" + w[0] + ", " + w[1] + ", " + w[2] + ")", x.tells(w[0], w[1], w[2]), w[3]);
        }
        int[][] no = {{-1, 0}, {4, 0}, {0, -1}, {0, 1}, {1, 0}, {Integer.MAX_VALUE, 0}, {0, Integer.MIN_VALUE}};
        for (int[] w : no) {
            due("places(" + w[0] + ", " + w[1] + ")", x.places(w[0], w[1]), CausewayKept.NO);
        }
        x.sheet(0, MISSING, 0);
        due("missing again", x.tells(0, 0, 0), -11);
    }

    private static void places() {
        CausewayKept x = walker();
        Check.lay(x, 0, INTS, 3);
        due("from 0", x.places(0, 0), 1);
        Check.lay(x, 0, INTS, 31);
        due("from 28, 29, 30, 31", x.places(0, 0), 0xF0000000L);
        Check.lay(x, 0, INTS, 12, 15);
        due("from 9", x.places(0, 0), 1L << 9);
        Check.lay(x, 0, INTS, 12, 16);
        due("from nowhere", x.places(0, 0), 0);
        x.set(6, 0, 0);
        Check.lay(x, 0, INTS, 31, 31);
        due("at home, at 31", x.places(0, 0), 1L << 31);
        due("stays at 0", x.told(0, 5), 0);
    }

    private static void films() {
        CausewayKept x = walker();
        due("film into a missing sheet", x.film(2, 0, 3), 3);
        due("it tells how all goes", x.tells(2, 0, 0), -1);
        due("3 cells", x.cell(2, 2, 9), 1);
        due("no more", x.cell(2, 3, 9), -12);
        Check.lay(x, 1, BYTES, 3, 6, 7);
        due("its second is 6", x.copy(2, 0, 1, 0, 2), 2);
        due("the third is not 7", x.tells(1, 0, 0), 2);
        Check.lay(x, 1, INTS, 3, 6, 9);
        due("it is of bytes", x.copy(2, 0, 1, 0, 1), -13);
        due("film over ints", x.film(1, 0, 20), 20);
        due("20 cells of bytes", x.copy(1, 0, 2, 0, 3), 3);
        due("one over stays at the end", x.cell(1, 19, 31), 1);
        due("so the last was 31", x.tells(1, 0, 0), -1);
        due("film of no hour", x.film(1, 0, 0), 0);
        due("a row of none", x.cell(1, 0, 0), -12);
        due("all in thought", x.told(0, 5), 0);
        due("the hour too", x.told(0, 0), 0);
    }

    private static void filmRefuses() {
        CausewayKept x = walker();
        Check.lay(x, 0, INTS, 3);
        int[][] wrong = {{-1, 0, 1}, {4, 0, 1}, {0, -1, 1}, {0, 1, 1}, {0, 0, -1}, {0, 0, 21}, {0, 0, Integer.MAX_VALUE}};
        for (int[] w : wrong) {
            due("film refused", x.film(w[0], w[1], w[2]), -2);
        }
        due("the sheet stays", x.tells(0, 0, 0), -1);
    }

    /** Over behind an hour in which the sea is so; at home, nobody is. */
    private static CausewayKept overBy(String condition) {
        CausewayKept x = Check.ruled("paces 9 * (" + condition + "); treads 0; doubts 0;");
        x.person(0, 0, 1);
        x.set(5, 0, 31);
        x.starts(0);
        return x;
    }

    private static void drawns() {
        // seed 1: 1103527590 is 2155327 by 512: sea 27; then 2524885223 (below 0 as an int) is 4931416: sea 16
        due("sea 27 first", overBy("sea = 27").drawn(1, 1), 1);
        due("no hour", overBy("sea = 27").drawn(1, 0), 0);
        due("sea 16 then", overBy("sea = 16").drawn(1, 2), 1);
        due("not yet", overBy("sea = 16").drawn(1, 1), 0);
        // seed 0: 12345 by 512 is 24
        due("sea 24", overBy("sea = 24").drawn(0, 1), 1);
        due("the sea that is matters not", overBy("sea = 10").drawn(1, 2), 0);
        CausewayKept x = overBy("hour = 39");
        due("40 hours", x.drawn(-5, 40), 1);
        due("39 hours", x.drawn(-5, 39), 0);
        due("all in thought", x.told(0, 6), 1);
        due("the sea stays", x.told(0, 1), 10);
        due("drawn(0, -1)", x.drawn(0, -1), -2);
        due("drawn(0, 41)", x.drawn(0, 41), -2);
        due("nobody", new CausewayKept().drawn(7, 40), 0);
    }

    private static void chanceIs(CausewayKept x, int seed, int m, int k, long above, long below) {
        due("chance(" + seed + ", " + m + ", " + k + ", 0)", x.chance(seed, m, k, 0), above);
        due("chance(" + seed + ", " + m + ", " + k + ", 1)", x.chance(seed, m, k, 1), below);
    }

    private static void chances() {
        CausewayKept x = overBy("hour = 0 and sea = 27");
        chanceIs(x, 1, 1, 1, 1, 1);
        chanceIs(x, 0, 1, 1, 0, 1);
        chanceIs(x, 0, 2, 1, 1, 2);
        chanceIs(x, 0, 3, 1, 1, 3);
        chanceIs(x, -1, 3, 1, 1, 3);
        chanceIs(x, 2, 3, 0, 1, 1);
        chanceIs(x, 1, 1, 2, 0, 1);
        chanceIs(overBy("hour = 11"), 5, 20, 1, 1, 1);
        chanceIs(overBy("hour = 12"), 5, 20, 1, 0, 1);
        // behind the greatest seed comes the least one, whose sea is 28; that of the greatest is 24
        chanceIs(overBy("hour = 0 and sea = 28"), Integer.MAX_VALUE, 2, 1, 1, 2);
        int[][] no = {{0, 0, 0}, {21, 0, 0}, {-1, 0, 0}, {1, -1, 0}, {1, 6, 0}, {1, 0, -1}, {1, 0, 2}};
        for (int[] w : no) {
            due("chance refused", x.chance(0, w[0], w[1], w[2]), CausewayKept.NO);
        }
        due("k 5 of one", x.chance(0, 20, 5, 0), 0);
        due("all in thought", x.told(0, 6), 1);
    }

    private static void images() {
        CausewayKept x = new CausewayKept();
        due("back ahead of an image", x.back(), -3);
        x.person(3, 7, -1);
        x.person(1, 2, 1);
        Check.read(x, "paces 1; treads 1; doubts 1;");
        x.force(1);
        int[][] set = {{0, 0, 44}, {1, 0, 55}, {2, 0, 1}, {2, 31, 2}, {3, 0, 4}, {4, 0, 66}, {5, 0, 8}, {6, 0, 2}, {6, 1, 3}};
        for (int[] s : set) {
            x.set(s[0], s[1], s[2]);
        }
        due("image()", x.image(), 2);
        Check.lay(x, 0, BYTES, 9);
        Check.feed(x, "paces");
        x.force(0);
        for (int[] s : set) {
            x.set(s[0], s[1], 0);
        }
        x.person(5, 5, 1);
        x.hour();
        for (int time = 0; time < 2; time++) {
            due("back()", x.back(), 2);
            for (int[] s : set) {
                due("as in the image: " + s[0], x.told(s[1], s[0]), s[2]);
            }
            due("the rule", x.count(5), 1);
            due("kind stays", x.told(0, 7), 3);
            due("way stays", x.told(0, 8), 0);
            due("who came since is gone", x.told(2, 7), -1000);
            due("people", x.count(0), 2);
            due("texts stay", x.count(3), 2);
            due("the tape stays", x.count(4), 5);
            due("sheets stay", x.cell(0, 0, 9), 1);
            due("another comes anew", x.person(2, 1, -1), 2);
            due("of another kind", x.told(2, 7), 2);
            due("at the other end", x.told(2, 5), 31);
            x.set(4, 2, 77);
            x.set(6, 2, 1);
        }
    }

    private static void imagesOfFew() {
        CausewayKept x = new CausewayKept();
        due("image of nobody", x.image(), 0);
        for (int i = 0; i < 5; i++) {
            x.person(0, i, 1);
            x.set(4, i, 9);
            x.set(6, i, 1);
        }
        due("back to nobody", x.back(), 0);
        due("the first comes", x.person(1, 1, -1), 0);
        due("without doubt", x.told(0, 4), 0);
        due("at home", x.told(0, 6), 0);
        due("alone", x.way(2), 0);
        due("a later image", x.image(), 1);
        x.set(3, 0, 9);
        due("back to the later one", x.back(), 1);
        due("its number", x.told(0, 3), 1);
    }

    private static void counts() {
        CausewayKept x = new CausewayKept();
        due("count(-1)", x.count(-1), -2);
        due("count(6)", x.count(6), -2);
        x.person(0, 0, 1);
        x.set(2, 3, 0);
        x.set(2, 31, 0);
        x.set(0, 0, 17);
        Check.read(x, "paces 1; treads 1; doubts 1;");
        Check.feed(x, "abc");
        x.force(1);
        int[] want = {1, 2, 17, 2, 3, 1};
        for (int what = 0; what < 6; what++) {
            due("count(" + what + ")", x.count(what), want[what]);
        }
        x.set(2, 0, 0);
        due("the first place too", x.count(1), 3);
    }
}
