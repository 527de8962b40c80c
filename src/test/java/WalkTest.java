/** Promises 8 to 12: starts, hour, run, arrives, way. */
public final class WalkTest {
    private static final Check CHECK = new Check("WalkTest");

    public static void main(String[] args) {
        starts();
        anHour();
        sinking();
        freeing();
        turns();
        bounds();
        ends();
        hoursEnd();
        runs();
        runRefuses();
        arrives();
        ways();
        CHECK.end();
    }

    private static void due(String call, long got, long want) {
        CHECK.due(call, got, want);
    }

    private static void starts() {
        CausewayKept x = new CausewayKept();
        due("starts of nobody", x.starts(0), -2);
        x.person(0, 0, 1);
        x.person(0, 0, -1);
        due("starts(-1)", x.starts(-1), -2);
        due("starts(2)", x.starts(2), -2);
        x.set(5, 1, 9);
        due("starts(1)", x.starts(1), 1);
        due("one starts where one is", x.told(1, 5), 9);
        due("ON it", x.told(1, 6), 1);
        due("starts(1) again", x.starts(1), -3);
        x.set(6, 1, 2);
        due("starts of a sunk one", x.starts(1), -3);
        due("the sunk one doesn't count", x.starts(0), 1);
        x.set(6, 1, 3);
        due("starts of one who is over", x.starts(1), -3);
    }

    private static void anHour() {
        CausewayKept x = Check.ruled("paces 3; treads 5; doubts 2;");
        x.set(1, 0, 39);
        x.person(0, 0, 1);
        x.person(2, 0, -1);
        x.person(0, 0, 1);
        x.starts(0);
        x.starts(1);
        due("hour()", x.hour(), 0);
        due("hour is 1", x.told(0, 0), 1);
        due("the walker is at 3", x.told(0, 5), 3);
        due("the walker's doubt", x.told(0, 4), 2);
        due("the old one is at 29", x.told(1, 5), 29);
        due("the old one's doubt is 0 at least", x.told(1, 4), 0);
        due("who is at home stays", x.told(2, 5), 0);
        due("who is at home doesn't doubt", x.told(2, 4), 0);
        int[][] firm = {{0, 27}, {1, 32}, {2, 32}, {3, 32}, {4, 27}, {28, 27}, {29, 37}, {30, 37}, {31, 27}};
        for (int[] f : firm) {
            due("firm of " + f[0], x.told(f[0], 2), f[1]);
        }
    }

    private static void sinking() {
        CausewayKept x = Check.ruled("paces 0; treads 9; doubts 1;");
        x.person(0, 0, 1);
        x.person(0, 0, 1);
        x.person(0, 0, 1);
        x.set(4, 0, 29);
        x.set(4, 1, 30);
        x.set(4, 2, 99);
        x.starts(0);
        x.starts(1);
        x.hour();
        due("30 of 30: not more", x.told(0, 6), 1);
        due("31 of 30", x.told(1, 6), 2);
        due("at home", x.told(2, 6), 0);
        due("nobody trod 0", x.told(0, 2), 29);
        x.hour();
        due("31 of 29", x.told(0, 6), 2);
        due("a sunk one doubts no more", x.told(1, 4), 31);
        CausewayKept y = Check.ruled("paces 1; treads 9; doubts 0;");
        y.person(0, 0, 1);
        y.set(4, 0, 39);
        y.starts(0);
        y.hour();
        due("trod firmer ahead of the doubt, washed behind it", y.told(0, 6), 1);
        due("washed", y.told(1, 2), 38);
    }

    private static void freeing() {
        CausewayKept x = Check.ruled("paces 2; treads 0; doubts 0;");
        for (int i = 0; i < 5; i++) {
            x.person(0, 0, 1);
        }
        int[][] as = {{0, 2}, {1, 2}, {0, 1}, {2, 2}, {3, 2}};
        for (int i = 0; i < 5; i++) {
            x.set(5, i, as[i][0]);
            x.set(6, i, as[i][1]);
        }
        due("hour()", x.hour(), 0);
        due("who is sunk where one starts stays so", x.told(0, 6), 2);
        due("passed by", x.told(1, 6), 1);
        due("the lower one's turn is over", x.told(1, 5), 1);
        due("at 2", x.told(2, 5), 2);
        due("freed, and goes on in its own turn", x.told(3, 5), 4);
        due("freed by the freed one", x.told(4, 5), 5);
        due("on it", x.way(2), 4);
        x.set(5, 0, 3);
        x.set(6, 1, 0);
        x.hour();
        due("the first one is freed too", x.told(0, 6), 1);
        due("but its turn was over", x.told(0, 5), 3);
    }

    private static void turns() {
        // told as all is then: the second finds what the first made of the place
        CausewayKept x = Check.ruled("paces 1 + (40 < firm); treads 15; doubts met * 4;");
        x.person(0, 0, 1);
        x.person(0, 0, -1);
        x.set(5, 1, 1);
        x.starts(0);
        x.starts(1);
        x.hour();
        due("0 came to 1", x.told(0, 5), 1);
        due("0 met nobody at 0", x.told(0, 4), 0);
        due("1 stood where it is 45 by then: two places", x.told(1, 6), 3);
        due("1 met 0 there", x.told(1, 4), 4);
        due("1 ended at 0", x.told(1, 5), 0);
        due("1 trod 0", x.told(0, 2), 44);
        // doubt, firm and so on are told ahead of the hour's own change
        CausewayKept y = Check.ruled("paces 1 + (0 < doubt); treads doubt; doubts 7 + doubt;");
        y.person(1, 0, 1);
        y.starts(0);
        y.hour();
        due("one place", y.told(0, 5), 1);
        due("doubt 7", y.told(0, 4), 7);
        due("trod by 0", y.told(1, 2), 29);
        y.hour();
        due("two places more", y.told(0, 5), 3);
        due("doubt 21", y.told(0, 4), 21);
        due("trod by 7", y.told(3, 2), 35);
        y.hour();
        due("a clerk in doubt goes half of 2", y.told(0, 5), 4);
    }

    private static void bounds() {
        CausewayKept x = Check.ruled("paces 1; treads 80; doubts 99;");
        x.person(0, 0, 1);
        x.person(0, 0, 1);
        x.starts(0);
        x.hour();
        due("99 at most", x.told(1, 2), 98);
        due("doubt 99 at most", x.told(0, 4), 99);
        due("99 is not more than 99", x.told(0, 6), 1);
        x.set(1, 0, 99);
        for (int i = 0; i < 12; i++) {
            x.hour();
        }
        due("firm 0 at least", x.told(31, 2), 0);
        CausewayKept y = Check.ruled("paces 0; treads 60; doubts -99;");
        y.person(5, 0, 1);
        y.set(4, 0, 50);
        y.starts(0);
        y.hour();
        due("doubt 0 at least", y.told(0, 4), 0);
        y.set(1, 0, 9);
        y.hour();
        due("a tenth of 9 is 0", y.told(0, 2), 29);
        y.set(1, 0, 19);
        y.hour();
        due("a tenth of 19 is 1", y.told(0, 2), 28);
    }

    private static void ends() {
        CausewayKept x = Check.ruled("paces 9; treads 1; doubts 50;");
        x.person(0, 0, 1);
        x.person(0, 0, -1);
        x.person(0, 0, 1);
        x.set(5, 0, 22);
        x.set(5, 1, 8);
        x.set(5, 2, 31);
        x.set(4, 2, 40);
        x.starts(0);
        x.starts(1);
        x.starts(2);
        due("two over", x.hour(), 2);
        due("9 places from 22 is the last place", x.told(0, 5), 31);
        due("not over yet, but sunk", x.told(0, 6), 2);
        due("8 places and one more from 8", x.told(1, 6), 3);
        due("at the end", x.told(2, 5), 31);
        due("over", x.told(2, 6), 3);
        due("doubt grew in the last hour", x.told(2, 4), 90);
        CausewayKept y = Check.ruled("paces 9; treads 1; doubts 0;");
        y.person(0, 0, -1);
        y.set(5, 0, 9);
        y.starts(0);
        due("not over", y.run(0, 1, 3), 0);
        y.set(5, 0, 8);
        due("over", y.hour(), 1);
        due("at 0", y.told(0, 5), 0);
        due("trod 0 once", y.told(0, 2), 30);
        due("who is over goes no further", y.hour(), 1);
        due("still at 0", y.told(0, 5), 0);
        due("trod no more", y.told(0, 2), 29);
    }

    private static void hoursEnd() {
        CausewayKept x = new CausewayKept();
        x.set(0, 0, 998);
        due("hour 998", x.hour(), 0);
        due("hour is 999", x.told(0, 0), 999);
        due("hour 999", x.hour(), -3);
        due("firm stays", x.told(0, 2), 29);
        // in thought HOUR may pass 999
        CausewayKept y = Check.ruled("paces 9 * (hour = 1001); treads 0; doubts 0;");
        y.person(0, 0, 1);
        y.starts(0);
        y.set(0, 0, 999);
        due("behind 2 hours", y.run(0, 2, 0), 0);
        due("behind 3 hours", y.run(0, 3, 0), 9);
    }

    private static void runs() {
        CausewayKept x = Check.ruled("paces 2; treads 3; doubts 5;");
        x.person(0, 0, 1);
        x.person(0, 0, -1);
        x.set(5, 1, 1);
        x.starts(0);
        x.starts(1);
        due("at, n 0", x.run(0, 0, 0), 0);
        due("how, n 0", x.run(0, 0, 1), 1);
        due("over, n 0", x.run(0, 0, 3), 0);
        due("firm of 0, n 0", x.run(0, 0, 10), 30);
        due("at, n 1", x.run(0, 1, 0), 2);
        due("doubt, n 1", x.run(0, 1, 2), 5);
        due("over, n 1", x.run(0, 1, 3), 1);
        due("how of 1, n 1", x.run(1, 1, 1), 3);
        due("firm of 0, trod by 1", x.run(0, 1, 10), 32);
        due("firm of 2, n 1", x.run(0, 1, 12), 32);
        due("firm of 31, n 1", x.run(0, 1, 41), 29);
        due("how, n 6", x.run(0, 6, 1), 2);
        due("sunk, n 5", x.run(0, 5, 4), 0);
        due("sunk, n 6", x.run(0, 6, 4), 1);
        due("doubt, n 60", x.run(0, 60, 2), 30);
        due("firm of 31, n 60", x.run(0, 60, 41), 0);
        due("all in thought", x.told(0, 5), 0);
        due("hour stays", x.told(0, 0), 0);
    }

    private static void runRefuses() {
        CausewayKept x = new CausewayKept();
        due("run with nobody", x.run(0, 1, 3), -2);
        x.person(0, 0, 1);
        int[][] wrong = {{-1, 0, 0}, {1, 0, 0}, {1, 0, 3}, {0, -1, 0}, {0, 61, 0}, {0, 0, -1}, {0, 0, 5}, {0, 0, 9},
            {0, 0, 42}, {0, Integer.MAX_VALUE, 0}, {0, 0, Integer.MIN_VALUE}};
        for (int[] w : wrong) {
            due("run refused", x.run(w[0], w[1], w[2]), -2);
        }
        due("run(0, 60, 0)", x.run(0, 60, 0), 0);
    }

    private static void arrives() {
        CausewayKept x = Check.ruled("paces 1; treads 9; doubts 0;");
        x.person(0, 0, 1);
        x.person(0, 0, -1);
        due("arrives(-1)", x.arrives(-1), -2);
        due("arrives(2)", x.arrives(2), -2);
        due("from home", x.arrives(0), -1);
        x.starts(0);
        due("31 places and one hour", x.arrives(0), 32);
        x.set(5, 0, 31);
        due("one hour", x.arrives(0), 1);
        x.set(6, 0, 3);
        due("over now", x.arrives(0), 0);
        CausewayKept y = Check.ruled("paces hour = 59; treads 0; doubts 0;");
        y.person(0, 0, 1);
        y.starts(0);
        y.set(5, 0, 31);
        due("in the 60th hour", y.arrives(0), 60);
        CausewayKept z = Check.ruled("paces hour = 60; treads 0; doubts 0;");
        z.person(0, 0, 1);
        z.starts(0);
        z.set(5, 0, 31);
        due("in the 61st hour", z.arrives(0), -1);
    }

    private static void ways() {
        CausewayKept x = new CausewayKept();
        due("way(-1)", x.way(-1), -2);
        due("way(5)", x.way(5), -2);
        due("like ones: the first", x.way(0), 0);
        x.set(2, 31, 7);
        due("the last place", x.way(0), 31);
        due("how firm", x.way(1), 7);
        x.set(2, 1, 6);
        due("the second place", x.way(0), 1);
        x.set(2, 1, 30);
        x.set(2, 12, 7);
        due("the first of two", x.way(0), 12);
        for (int i = 0; i < 5; i++) {
            x.person(0, 0, 1);
            x.set(6, i, i < 3 ? 1 : i - 1);
        }
        due("on it", x.way(2), 3);
        due("sunk", x.way(3), 1);
        due("over", x.way(4), 1);
    }
}
