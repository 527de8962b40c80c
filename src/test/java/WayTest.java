/** Promises 1 to 4: a new object, set, person, told. */
public final class WayTest {
    private static final Check CHECK = new Check("WayTest");

    public static void main(String[] args) {
        newObject();
        sets();
        setRefuses();
        persons();
        toldOfWhatIs();
        toldRefuses();
        paces();
        treads();
        doubts();
        meeting();
        CHECK.end();
    }

    private static void due(String call, long got, long want) {
        CHECK.due(call, got, want);
    }

    private static void newObject() {
        CausewayKept x = new CausewayKept();
        for (int p = 0; p < 32; p++) {
            due("firm of " + p + " at first", x.told(p, 2), 30);
        }
        due("hour at first", x.told(0, 0), 0);
        due("sea at first", x.told(0, 1), 10);
        for (int what = 0; what <= 5; what++) {
            due("count(" + what + ") at first", x.count(what), what == 3 ? 1 : 0);
        }
        for (int s = 0; s < 4; s++) {
            due("a sheet is missing at first", x.cell(s, 0, 0), -11);
        }
        due("no image at first", x.back(), -3);
        due("NONE", CausewayKept.NONE, -1);
        due("BAD", CausewayKept.BAD, -2);
        due("STATE", CausewayKept.STATE, -3);
        due("FULL", CausewayKept.FULL, -4);
        due("NO", CausewayKept.NO, -4611686018427387904L);
    }

    private static void sets() {
        CausewayKept x = new CausewayKept();
        x.person(0, 4, 1);
        x.person(1, 6, -1);
        int[][] edges = {{0, -77, 0, 999}, {1, 500, 10, 99}, {2, 0, 30, 99}, {2, 31, 30, 99},
            {3, 0, 4, 9}, {3, 1, 6, 9}, {4, 0, 0, 99}, {5, 0, 0, 31}, {5, 1, 31, 31}, {6, 0, 0, 3}, {6, 1, 0, 3}};
        for (int[] e : edges) {
            String call = "set(" + e[0] + ", " + e[1] + ", ..)";
            due(call + " was", x.set(e[0], e[1], e[3]), e[2]);
            due(call + " too high", x.set(e[0], e[1], e[3] + 1), -2);
            due(call + " too low", x.set(e[0], e[1], -1), -2);
            due(call + " stays", x.told(e[1], e[0]), e[3]);
            due(call + " back to 0", x.set(e[0], e[1], 0), e[3]);
            due(call + " is 0", x.told(e[1], e[0]), 0);
        }
        due("another place is as it was", x.told(1, 2), 30);
    }

    private static void setRefuses() {
        CausewayKept x = new CausewayKept();
        x.person(0, 0, 1);
        due("set(-1, ..)", x.set(-1, 0, 0), -2);
        due("set(7, ..)", x.set(7, 0, 0), -2);
        due("set(2, -1, ..)", x.set(2, -1, 0), -2);
        due("set(2, 32, ..)", x.set(2, 32, 0), -2);
        for (int what = 3; what <= 6; what++) {
            due("set of nobody", x.set(what, 1, 0), -2);
            due("set of nobody below", x.set(what, -1, 0), -2);
            due("set of nobody far off", x.set(what, Integer.MAX_VALUE, 0), -2);
            due("set far above", x.set(what, 0, Integer.MAX_VALUE), -2);
            due("set far below", x.set(what, 0, Integer.MIN_VALUE), -2);
        }
    }

    private static void persons() {
        CausewayKept x = new CausewayKept();
        int[][] wrong = {{-1, 0, 1}, {6, 0, 1}, {0, -1, 1}, {0, 10, 1}, {0, 0, 0}, {0, 0, 2}, {0, 0, -2}};
        for (int[] w : wrong) {
            due("person refused", x.person(w[0], w[1], w[2]), -2);
        }
        due("nobody came", x.count(0), 0);
        for (int i = 0; i < 5; i++) {
            int way = i % 2 == 0 ? 1 : -1;
            due("person " + i, x.person(i + 1, 9 - i, way), i);
            due("kind of " + i, x.told(i, 7), i + 1);
            due("number of " + i, x.told(i, 3), 9 - i);
            due("way of " + i, x.told(i, 8), way + 1);
            due("doubt of " + i, x.told(i, 4), 0);
            due("at of " + i, x.told(i, 5), way == 1 ? 0 : 31);
            due("how of " + i, x.told(i, 6), 0);
        }
        due("a sixth", x.person(0, 0, 1), -4);
        for (int[] w : wrong) {
            due("BAD goes ahead of FULL", x.person(w[0], w[1], w[2]), -2);
        }
        due("five came", x.count(0), 5);
    }

    private static void toldOfWhatIs() {
        CausewayKept x = new CausewayKept();
        for (int i = 0; i < 5; i++) {
            x.person(i, i, 1);
            x.set(5, i, i < 4 ? 7 : 8);
            x.set(6, i, i < 4 ? i : 1);
        }
        due("ON it and SUNK at 7", x.told(7, 12), 2 + 4);
        due("at 8", x.told(8, 12), 16);
        due("at 0", x.told(0, 12), 0);
        x.set(6, 0, 2);
        due("the first one too", x.told(7, 12), 1 + 2 + 4);
        due("at 31", x.told(31, 12), 0);
        due("hour, whoever", x.told(-9, 0), 0);
        due("sea, whoever", x.told(99, 1), 10);
    }

    private static void toldRefuses() {
        CausewayKept x = new CausewayKept();
        x.person(0, 0, 1);
        due("told(0, -1)", x.told(0, -1), -1000);
        due("told(0, 13)", x.told(0, 13), -1000);
        due("told(-1, 2)", x.told(-1, 2), -1000);
        due("told(32, 2)", x.told(32, 2), -1000);
        due("told(-1, 12)", x.told(-1, 12), -1000);
        due("told(32, 12)", x.told(32, 12), -1000);
        for (int what = 3; what <= 11; what++) {
            due("told(1, " + what + ")", x.told(1, what), -1000);
            due("told(-1, " + what + ")", x.told(-1, what), -1000);
            due("told(MIN, " + what + ")", x.told(Integer.MIN_VALUE, what), -1000);
        }
    }

    /** One of a kind, a number and a doubt, in an hour, by this text. */
    private static int told(String text, int kind, int number, int doubt, int hour, int what) {
        CausewayKept x = Check.ruled(text);
        x.person(kind, number, 1);
        x.set(4, 0, doubt);
        x.set(0, 0, hour);
        return x.told(0, what);
    }

    private static void paces() {
        int[][] rows = {
            // v, kind, number, doubt, pace
            {5, 0, 0, 99, 5}, {10, 0, 0, 0, 9}, {0, 0, 0, 0, 0}, {5, 1, 0, 20, 5}, {5, 1, 0, 21, 2},
            {99, 1, 0, 21, 9}, {19, 1, 0, 21, 9}, {17, 1, 0, 21, 8}, {5, 2, 0, 0, 4}, {0, 2, 0, 0, 0},
            {10, 2, 0, 0, 9}, {5, 3, 5, 0, 7}, {5, 3, 5, 21, 4}, {5, 3, 9, 21, 2}, {9, 3, 2, 0, 9},
            {0, 3, 7, 0, 1}, {5, 4, 9, 0, 4}, {0, 4, 9, 0, 0}, {4, 5, 0, 0, 8}, {5, 5, 0, 0, 9}, {300, 5, 0, 0, 9}};
        for (int[] r : rows) {
            due("pace of kind " + r[1] + " by " + r[0],
                told("paces " + r[0] + "; treads 0; doubts 0;", r[1], r[2], r[3], 0, 9), r[4]);
        }
        due("paces are 0 at least, then 2 more", told("paces -9; treads 0; doubts 0;", 3, 2, 0, 0, 9), 2);
        due("paces are 99 at most, then half", told("paces 9999; treads 0; doubts 0;", 1, 2, 30, 0, 9), 9);
        due("the rule at first", new CausewayKept().told(0, 9), -1000);
    }

    private static void treads() {
        int[][] rows = {
            // v, kind, number, treads
            {5, 0, 9, 5}, {5, 1, 9, 5}, {5, 2, 9, 10}, {5, 3, 9, 2}, {5, 4, 9, 19}, {5, 5, 9, 0},
            {99, 0, 0, 99}, {99, 2, 0, 99}, {60, 4, 9, 99}, {99, 3, 0, 49}, {500, 0, 0, 99}, {500, 3, 0, 49}};
        for (int[] r : rows) {
            due("treads of kind " + r[1] + " by " + r[0],
                told("paces 0; treads " + r[0] + "; doubts 0;", r[1], r[2], 0, 0, 10), r[3]);
        }
        int[][] below = {{1, 0, 9, 0}, {3, 2, 9, 0}, {3, 3, 9, 0}, {1, 4, 9, 7}, {4, 4, 9, 1}, {5, 4, 9, 0}, {500, 4, 9, 0}};
        for (int[] r : below) {
            due("treads of kind " + r[1] + " by -" + r[0],
                told("paces 0; treads -" + r[0] + "; doubts 0;", r[1], r[2], 0, 0, 10), r[3]);
        }
    }

    private static void doubts() {
        int[][] rows = {
            // v, kind, number, hour, doubts
            {5, 0, 9, 0, 5}, {5, 1, 9, 0, 14}, {5, 2, 9, 0, -5}, {5, 3, 9, 0, 0}, {5, 3, 9, 1, 14}, {5, 3, 9, 998, 0},
            {5, 3, 9, 999, 14}, {5, 4, 9, 0, -5}, {5, 5, 9, 0, 10}, {99, 5, 9, 0, 198}, {500, 1, 9, 0, 108}};
        for (int[] r : rows) {
            due("doubts of kind " + r[1] + " by " + r[0],
                told("paces 0; treads 0; doubts " + r[0] + ";", r[1], r[2], 0, r[3], 11), 1000 + r[4]);
        }
        due("doubts far below", told("paces 0; treads 0; doubts -500;", 0, 0, 0, 0, 11), 901);
        due("doubts far below, twice", told("paces 0; treads 0; doubts -500;", 5, 0, 0, 0, 11), 802);
        due("doubts far below, of an old one", told("paces 0; treads 0; doubts -500;", 2, 0, 0, 0, 11), 1099);
    }

    private static void meeting() {
        CausewayKept x = Check.ruled("paces met + 3; treads met; doubts met;");
        x.person(4, 1, 1);
        x.person(0, 0, 1);
        x.person(0, 0, 1);
        x.set(6, 1, 1);
        x.set(6, 2, 2);
        due("one at home meets nobody: pace", x.told(0, 9), 2);
        due("one at home meets nobody: treads", x.told(0, 10), 1);
        due("one at home meets nobody: doubts", x.told(0, 11), 1000);
        x.set(6, 0, 1);
        due("met two: pace", x.told(0, 9), 5);
        due("met two: treads", x.told(0, 10), 5);
        due("met two: doubts", x.told(0, 11), 1000 - 2 - 10);
        due("the sunk one met two", x.told(2, 10), 2);
        x.set(6, 1, 3);
        x.set(5, 2, 1);
        x.set(5, 1, 1);
        x.set(5, 2, 0);
        due("met one: pace", x.told(0, 9), 4);
        due("met one: doubts", x.told(0, 11), 1000 - 1 - 10);
        x.set(5, 2, 1);
        due("over and elsewhere: pace", x.told(0, 9), 2);
        due("over and elsewhere: doubts", x.told(0, 11), 1000);
        CausewayKept y = Check.ruled("paces 0; treads 0; doubts 0;");
        y.person(4, 0, 1);
        y.person(0, 0, 1);
        y.set(6, 0, 1);
        y.set(6, 1, 1);
        due("the bound is laid once: 0 less 1 and 1", y.told(0, 9), 0);
    }
}
