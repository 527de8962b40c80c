/** Promises 13 to 16: shifts, stands, leave, mean. */
public final class BestTest {
    private static final Check CHECK = new Check("BestTest");

    public static void main(String[] args) {
        shifts();
        shiftsOfMany();
        shiftsRefuses();
        stands();
        leaves();
        means();
        CHECK.end();
    }

    private static void due(String call, long got, long want) {
        CHECK.due(call, got, want);
    }

    private static void shiftsAre(CausewayKept x, int n, int digits, int over, int sunk) {
        due("shifts(" + n + ", 0)", x.shifts(n, 0), digits);
        due("shifts(" + n + ", 1)", x.shifts(n, 1), over);
        due("shifts(" + n + ", 2)", x.shifts(n, 2), sunk);
    }

    private static void shifts() {
        shiftsAre(new CausewayKept(), 5, 0, 0, 0);
        CausewayKept x = Check.ruled("paces 9 * hour; treads 0; doubts 0;");
        x.person(0, 0, 1);
        x.set(5, 0, 31);
        x.set(4, 0, 40);
        // in hour 0 one goes nowhere and sinks, behind it one is over
        shiftsAre(x, 0, 1, 0, 0);
        shiftsAre(x, 1, 2, 0, 0);
        shiftsAre(x, 2, 2, 1, 0);
        shiftsAre(x, 12, 2, 1, 0);
        CausewayKept y = Check.ruled("paces 9 * (1 < hour); treads 0; doubts 0;");
        y.person(0, 0, 1);
        y.set(5, 0, 31);
        y.set(4, 0, 40);
        shiftsAre(y, 2, 3, 0, 0);
        shiftsAre(y, 3, 3, 1, 0);
        CausewayKept z = Check.ruled("paces 0; treads 0; doubts 0;");
        z.person(0, 0, 1);
        z.set(4, 0, 40);
        shiftsAre(z, 1, 2, 0, 0);
        shiftsAre(z, 2, 3, 0, 0);
        shiftsAre(z, 3, 4, 0, 0);
        due("all in thought", z.told(0, 6), 0);
    }

    private static void shiftsOfMany() {
        // each sinks who is out in the hour of one's number
        CausewayKept x = Check.ruled("paces 0; treads 0; doubts 40 * (hour = number);");
        for (int i = 0; i < 3; i++) {
            x.person(0, i, 1);
        }
        shiftsAre(x, 0, 111, 0, 0);
        shiftsAre(x, 1, 211, 0, 0);
        shiftsAre(x, 2, 231, 0, 0);
        shiftsAre(x, 3, 234, 0, 0);
        // one who isn't at home is 0 among the digits, and counts among those that are over
        x.person(0, 0, 1);
        x.set(6, 3, 3);
        shiftsAre(x, 3, 2340, 1, 0);
        CausewayKept y = Check.ruled("paces 9; treads 0; doubts 0;");
        for (int i = 0; i < 5; i++) {
            y.person(0, 0, 1);
            y.set(5, i, 31);
        }
        y.set(6, 0, 2);
        shiftsAre(y, 1, 1111, 4, 1);
        shiftsAre(y, 0, 1111, 0, 1);
        y.set(6, 0, 0);
        y.set(6, 4, 1);
        shiftsAre(y, 1, 11110, 5, 0);
        // most over goes ahead of fewest sunk
        CausewayKept z = Check.ruled("paces 9 * (number = 1); treads 0; doubts 40 * (number = 0) * met;");
        z.person(0, 0, 1);
        z.person(0, 1, 1);
        z.set(6, 0, 1);
        z.set(5, 1, 27);
        z.set(5, 0, 27);
        shiftsAre(z, 1, 1, 1, 1);
    }

    private static void shiftsRefuses() {
        CausewayKept x = new CausewayKept();
        int[][] wrong = {{-1, 0}, {13, 0}, {0, -1}, {0, 3}, {Integer.MAX_VALUE, 0}, {0, Integer.MIN_VALUE}};
        for (int[] w : wrong) {
            due("shifts refused", x.shifts(w[0], w[1]), -2);
        }
        due("shifts(12, 2)", x.shifts(12, 2), 0);
    }

    private static void stands() {
        CausewayKept x = Check.ruled("paces 0; treads 0; doubts 0;");
        due("nobody", x.stands(40), 99);
        x.person(0, 0, 1);
        x.set(4, 0, 27);
        x.starts(0);
        due("stands(1): washed behind the doubt", x.stands(1), 99);
        due("stands(2)", x.stands(2), 39);
        due("stands(4)", x.stands(4), 19);
        due("stands(5)", x.stands(5), 9);
        due("stands(40)", x.stands(40), 9);
        x.set(4, 0, 31);
        due("none", x.stands(1), -1);
        x.set(6, 0, 2);
        due("sunk now: nobody more", x.stands(40), 99);
        due("sea stays", x.told(0, 1), 10);
        due("stands(0)", x.stands(0), -2);
        due("stands(41)", x.stands(41), -2);
        due("stands(-1)", x.stands(-1), -2);
        CausewayKept y = Check.ruled("paces 0; treads 0; doubts 40 * (not (sea = 7 or sea = 50));");
        y.person(0, 0, 1);
        y.starts(0);
        due("not only where it is low", y.stands(1), 50);
        CausewayKept calm = Check.ruled("paces 0; treads 0; doubts 40 * (not sea = 0);");
        calm.person(0, 0, 1);
        calm.starts(0);
        due("only without a sea", calm.stands(1), 0);
        // one sinks and another is freed: that is nobody more
        CausewayKept z = Check.ruled("paces number; treads 0; doubts 40 * (number = 0);");
        z.person(0, 0, 1);
        z.person(0, 1, 1);
        z.person(0, 5, 1);
        z.set(5, 2, 1);
        z.starts(0);
        z.starts(1);
        z.set(6, 2, 2);
        due("one for another", z.stands(1), 99);
    }

    private static void leaves() {
        CausewayKept x = Check.ruled("paces 0; treads 0; doubts met * 40;");
        due("nobody", x.leave(1, 0), -1);
        due("nobody sunk", x.leave(1, 1), 0);
        x.person(0, 0, 1);
        x.person(0, 0, 1);
        x.person(0, 0, 1);
        due("all at home", x.leave(5, 0), -1);
        x.starts(1);
        x.starts(2);
        due("the first of like ones", x.leave(1, 0), 1);
        due("then nobody is sunk", x.leave(1, 1), 0);
        x.starts(0);
        due("of three, two meet still", x.leave(1, 0), 0);
        due("two are sunk", x.leave(1, 1), 2);
        x.set(4, 2, 50);
        x.set(5, 2, 9);
        due("who sinks anyway", x.leave(1, 0), 0);
        due("then that one is sunk still", x.leave(1, 1), 1);
        x.set(6, 0, 0);
        due("the last", x.leave(40, 0), 2);
        due("then nobody", x.leave(40, 1), 0);
        due("all in thought", x.told(2, 6), 1);
        int[][] wrong = {{0, 0}, {41, 0}, {-1, 0}, {1, -1}, {1, 2}};
        for (int[] w : wrong) {
            due("leave refused", x.leave(w[0], w[1]), -2);
        }
        x.set(6, 2, 2);
        due("a sunk one can't be left at home", x.leave(1, 0), -1);
        due("and stays sunk", x.leave(1, 1), 1);
        CausewayKept y = Check.ruled("paces 0; treads 0; doubts 40 * (number = 4);");
        for (int i = 0; i < 5; i++) {
            y.person(0, i, 1);
            y.starts(i);
        }
        due("the last of five", y.leave(1, 0), 4);
        due("then nobody of five", y.leave(1, 1), 0);
    }

    private static void means() {
        CausewayKept x = new CausewayKept();
        due("mean(0)", x.mean(0), 30);
        due("mean(1)", x.mean(1), 1);
        x.set(2, 0, 31);
        due("961 of 32", x.mean(0), 961);
        due("961 of 32, below", x.mean(1), 32);
        x.set(2, 1, 37);
        due("968 of 32 is 121 of 4", x.mean(0), 121);
        due("968 of 32 is 121 of 4, below", x.mean(1), 4);
        for (int p = 0; p < 32; p++) {
            x.set(2, p, 0);
        }
        due("0 of 32", x.mean(0), 0);
        due("0 of 32, below", x.mean(1), 1);
        due("mean(-1)", x.mean(-1), CausewayKept.NO);
        due("mean(2)", x.mean(2), CausewayKept.NO);
    }
}
