/** The sentences of promises 8 to 12: starts, hour, run, arrives, way. */
final class WalkSentences {
    private static final int MIN = Integer.MIN_VALUE, MAX = Integer.MAX_VALUE;
    private static final int HOME = 0, ON = 1, SUNK = 2, OVER = 3;

    private final Sentences doc;

    WalkSentences(Sentences doc) {
        this.doc = doc;
    }

    void tell() {
        startsTellsHowManyAreOnIt();
        startsIsBad();
        startsIsState();
        startedIsOnIt();

        hourTellsHowManyAreOver();
        hourIsState();
        whoGoesInAnHour();
        doubtGrows();
        onePlaceAfterTheOther();
        placesAreTrod();
        whereThereIsNoNext();
        whoSinks();
        placesAreWashed();
        quotientsAreCut();
        hourIsOneMore();

        runAnswers();
        runAnswersFirm();
        runIsBad();
        runIsInThought();
        whatRunTells();

        arrivesTells();
        arrivesIsBad();
        arrivesIsNone();
        arrivesFirst();

        wayTellsTheLeastFirm();
        wayTellsHowMany();
        wayIsBad();
        leastFirm();
    }

    /** People of kind 0 by this rule, each with a way, a place and a HOW; the sea takes nothing. */
    private static CausewayKept calm(String rule, int[]... people) {
        CausewayKept x = Check.ruled(rule);
        x.set(1, 0, 0);
        for (int i = 0; i < people.length; i++) {
            x.person(0, i, people[i][0]);
            x.set(5, i, people[i][1]);
            x.set(6, i, people[i][2]);
        }
        return x;
    }

    // ---- promise 8

    private void startsTellsHowManyAreOnIt() {
        doc.of(8, "STARTED, truly: how many are ON it then.");
        CausewayKept x = new CausewayKept();
        for (int i = 0; i < 5; i++) {
            x.person(0, 0, 1);
        }
        for (int i = 4; i >= 0; i--) {
            doc.due("starts(" + i + ")", x.starts(i), 5 - i);
            doc.due("how", x.told(i, 6), ON);
        }
        x.set(6, 0, HOME);
        x.set(6, 1, SUNK);
        x.set(6, 2, OVER);
        doc.due("sunk and over don't count", x.starts(0), 3);
    }

    private void startsIsBad() {
        doc.of(8, "BAD;");
        CausewayKept x = new CausewayKept();
        doc.due("of nobody", x.starts(0), -2);
        x.person(0, 0, 1);
        for (int one : new int[] {MIN, -1, 1, 5, MAX}) {
            doc.due("starts(" + one + ")", x.starts(one), -2);
        }
        doc.due("nobody is on it", x.way(2), 0);
        doc.due("starts(0)", x.starts(0), 1);
    }

    private void startsIsState() {
        doc.of(8, "STATE: one isn't at HOME.");
        for (int how = ON; how <= OVER; how++) {
            CausewayKept x = calm("paces 1;treads 0;doubts 0;", new int[] {1, 4, how});
            doc.due("starts of HOW " + how, x.starts(0), -3);
            doc.due("it stays so", x.told(0, 6), how);
            doc.due("and there", x.told(0, 5), 4);
        }
    }

    private void startedIsOnIt() {
        doc.term(8, "STARTED: one at HOME is ON it.");
        CausewayKept x = calm("paces 1;treads 0;doubts 0;", new int[] {1, 31, HOME});
        x.set(4, 0, 99);
        doc.due("starts(0)", x.starts(0), 1);
        doc.due("on it", x.told(0, 6), ON);
        doc.due("where one was", x.told(0, 5), 31);
        doc.due("in the doubt one was in", x.told(0, 4), 99);
        doc.due("no hour has gone", x.told(0, 0), 0);
    }

    // ---- promise 9

    private void hourTellsHowManyAreOver() {
        doc.of(9, "An HOUR, truly: how many are OVER then.");
        doc.due("nobody", new CausewayKept().hour(), 0);
        CausewayKept x = calm("paces 1;treads 0;doubts 0;", new int[] {1, 31, ON}, new int[] {-1, 0, ON},
            new int[] {1, 30, ON}, new int[] {1, 7, OVER}, new int[] {1, 31, HOME});
        doc.due("two come over to one", x.hour(), 3);
        doc.due("one more", x.hour(), 4);
        doc.due("none more", x.hour(), 4);
        doc.due("three hours", x.told(0, 0), 3);
    }

    private void hourIsState() {
        doc.of(9, "STATE: HOUR is 999.");
        CausewayKept x = calm("paces 1;treads 5;doubts 1;", new int[] {1, 0, ON});
        x.set(1, 0, 99);
        x.set(0, 0, 998);
        doc.due("hour 998", x.hour(), 0);
        doc.due("hour then", x.told(0, 0), 999);
        for (int again = 0; again < 2; again++) {
            doc.due("hour 999", x.hour(), -3);
            doc.due("hour stays", x.told(0, 0), 999);
            doc.due("one stays there", x.told(0, 5), 1);
            doc.due("doubt stays", x.told(0, 4), 1);
            doc.due("places stay", x.told(31, 2), 21);
        }
        x.set(0, 0, 0);
        doc.due("hour 0", x.hour(), 0);
        doc.due("one goes on", x.told(0, 5), 2);
    }

    private void whoGoesInAnHour() {
        doc.term(9, "An HOUR: of PEOPLE by numbers (told as all is then) those who are ON it: PACE, TREADS, DOUBTS are told;");
        CausewayKept x = calm("paces 1;treads 5;doubts 3;", new int[] {1, 4, HOME}, new int[] {1, 4, ON}, new int[] {1, 14, SUNK},
            new int[] {1, 24, OVER});
        x.hour();
        int[] at = {4, 5, 14, 24};
        for (int one = 0; one < 4; one++) {
            doc.due("where " + one + " is", x.told(one, 5), at[one]);
            doc.due("doubt of " + one, x.told(one, 4), one == 1 ? 3 : 0);
            doc.due("how " + one + " is", x.told(one, 6), one);
        }
        doc.due("trod by one only", x.told(5, 2) + x.told(15, 2) + x.told(25, 2), 95);
        // the lower number has trod the place where the higher one is asked; not the other way about
        String rule = "paces 1 + (firm = 35);treads 5;doubts 0;";
        CausewayKept lowBehind = calm(rule, new int[] {1, 0, ON}, new int[] {1, 1, ON});
        lowBehind.hour();
        doc.due("0 came to 1", lowBehind.told(0, 5), 1);
        doc.due("1 was told of 35", lowBehind.told(1, 5), 3);
        CausewayKept highBehind = calm(rule, new int[] {1, 1, ON}, new int[] {1, 0, ON});
        highBehind.hour();
        doc.due("0 was told of 30", highBehind.told(0, 5), 2);
        doc.due("1 was told of 30", highBehind.told(1, 5), 1);
        CausewayKept once = calm("paces 2;treads firm;doubts firm;", new int[] {1, 0, ON});
        once.hour();
        doc.due("treads are told once, ahead of going", once.told(2, 2), 60);
        doc.due("doubts too", once.told(0, 4), 30);
        CausewayKept freed = calm("paces 1;treads 0;doubts 0;", new int[] {1, 4, ON}, new int[] {1, 5, SUNK});
        freed.hour();
        doc.due("who is on it as the turn comes goes", freed.told(1, 5), 6);
        CausewayKept late = calm("paces 1;treads 0;doubts 0;", new int[] {1, 5, SUNK}, new int[] {1, 4, ON});
        late.hour();
        doc.due("whose turn is over stays", late.told(0, 5), 5);
        doc.due("but is on it", late.told(0, 6), ON);
    }

    private void doubtGrows() {
        doc.term(9, "DOUBT is so much more (0 .. 99, else the bound);");
        int[][] rows = {{0, 0, 2, 2}, {0, 96, 2, 98}, {0, 97, 2, 99}, {0, 98, 2, 99}, {0, 99, 2, 99}, {0, 0, 99, 99}, {0, 1, 99, 99},
            {5, 1, 99, 99}, {2, 3, 2, 1}, {2, 2, 2, 0}, {2, 1, 2, 0}, {2, 0, 2, 0}, {2, 98, 99, 0}, {2, 99, 98, 1}};
        for (int[] r : rows) {
            CausewayKept x = Check.ruled("paces 0;treads 0;doubts " + r[2] + ";");
            x.person(r[0], 0, 1);
            x.starts(0);
            x.set(4, 0, r[1]);
            x.hour();
            doc.due("doubt " + r[1] + " of kind " + r[0] + " by " + r[2], x.told(0, 4), r[3]);
        }
    }

    private void onePlaceAfterTheOther() {
        doc.term(9, "then PLACE by PLACE, as many as PACE, one comes to the next one the WAY");
        for (int pace = 0; pace <= 9; pace++) {
            CausewayKept x = calm("paces " + pace + ";treads 5;doubts 0;", new int[] {1, 0, ON}, new int[] {-1, 31, ON});
            x.hour();
            doc.due("from 0, pace " + pace, x.told(0, 5), pace);
            doc.due("from 31, pace " + pace, x.told(1, 5), 31 - pace);
            for (int k = 0; k <= 10; k++) {
                int firm = k > 0 && k <= pace ? 35 : 30;
                doc.due("place " + k + ", pace " + pace, x.told(k, 2), firm);
                doc.due("place " + (31 - k) + ", pace " + pace, x.told(31 - k, 2), firm);
            }
        }
    }

    private void placesAreTrod() {
        doc.term(9, "(TREADS makes it so much firmer, 99 at most; who is SUNK there is ON it again);");
        int[][] firm = {{0, 5}, {93, 98}, {94, 99}, {95, 99}, {99, 99}};
        for (int[] f : firm) {
            CausewayKept x = calm("paces 1;treads 5;doubts 0;", new int[] {1, 0, ON});
            x.set(2, 1, f[0]);
            x.hour();
            doc.due("trod by 5, of " + f[0], x.told(1, 2), f[1]);
        }
        CausewayKept x = calm("paces 2*(number = 4);treads 0;doubts 0;", new int[] {1, 1, SUNK}, new int[] {1, 2, SUNK},
            new int[] {-1, 3, SUNK}, new int[] {1, 4, SUNK}, new int[] {1, 1, ON});
        x.hour();
        int[] how = {SUNK, ON, ON, SUNK, ON};
        for (int one = 0; one < 5; one++) {
            doc.due("how " + one + " is", x.told(one, 6), how[one]);
        }
        CausewayKept y = calm("paces number;treads 0;doubts 0;", new int[] {1, 31, SUNK}, new int[] {1, 30, ON}, new int[] {1, 31, SUNK},
            new int[] {1, 31, HOME}, new int[] {1, 31, OVER});
        y.hour();
        int[] of = {ON, ON, OVER, HOME, OVER};
        for (int one = 0; one < 5; one++) {
            doc.due("at 31, how " + one + " is", y.told(one, 6), of[one]);
        }
    }

    private void whereThereIsNoNext() {
        doc.term(9, "is there none, one is OVER (AT the end, and goes no further);");
        int[][] rows = {{0, 31, ON, 31}, {1, 30, ON, 31}, {1, 31, OVER, 31}, {2, 30, OVER, 31}, {2, 29, ON, 31}, {9, 22, ON, 31},
            {9, 23, OVER, 31}, {9, 31, OVER, 31}, {9, 0, ON, 9}};
        for (int[] r : rows) {
            CausewayKept x = calm("paces " + r[0] + ";treads 5;doubts 0;", new int[] {1, r[1], ON}, new int[] {-1, 31 - r[1], ON});
            int over = x.hour();
            String call = "from " + r[1] + ", pace " + r[0];
            doc.due(call + ": over", over, r[2] == OVER ? 2 : 0);
            doc.due(call + ": how", x.told(0, 6), r[2]);
            doc.due(call + ": at", x.told(0, 5), r[3]);
            doc.due(call + ", the other way: how", x.told(1, 6), r[2]);
            doc.due(call + ", the other way: at", x.told(1, 5), 31 - r[3]);
            doc.due(call + ": the end is trod once", x.told(31, 2), r[1] < 31 && r[3] == 31 ? 35 : 30);
        }
        CausewayKept x = calm("paces 9;treads 5;doubts 1;", new int[] {1, 31, ON});
        x.hour();
        doc.due("over behind the next hour", x.hour(), 1);
        doc.due("goes no further", x.told(0, 5), 31);
        doc.due("treads nothing", x.told(31, 2) + x.told(0, 2), 60);
        doc.due("doubts no more", x.told(0, 4), 1);
    }

    private void whoSinks() {
        doc.term(9, "is one ON it still, and more in DOUBT than the PLACE is FIRM, one is SUNK.");
        int[][] rows = {{30, 30, ON}, {31, 30, SUNK}, {0, 0, ON}, {1, 0, SUNK}, {99, 99, ON}, {99, 98, SUNK}, {29, 30, ON}};
        for (int[] r : rows) {
            CausewayKept x = calm("paces 0;treads 0;doubts 0;", new int[] {1, 4, ON});
            x.set(1, 0, 99);
            x.set(4, 0, r[0]);
            x.set(2, 4, r[1]);
            x.hour();
            doc.due("doubt " + r[0] + " where it is " + r[1] + " firm, ahead of the sea", x.told(0, 6), r[2]);
        }
        CausewayKept over = calm("paces 1;treads 0;doubts 99;", new int[] {1, 31, ON});
        over.set(2, 31, 0);
        over.hour();
        doc.due("one who is over doesn't sink", over.told(0, 6), OVER);
        CausewayKept there = calm("paces 1;treads 5;doubts 35;", new int[] {1, 0, ON}, new int[] {-1, 10, ON});
        there.set(2, 0, 0);
        there.set(2, 9, 29);
        there.hour();
        doc.due("where one came to, as it is trod: 35", there.told(0, 6), ON);
        doc.due("where one came to, as it is trod: 34", there.told(1, 6), SUNK);
        doc.due("sunk there", there.told(1, 5), 9);
        CausewayKept grown = calm("paces 0;treads 0;doubts 1;", new int[] {1, 0, ON});
        grown.set(4, 0, 30);
        grown.hour();
        doc.due("doubt as it has grown", grown.told(0, 6), SUNK);
    }

    private void placesAreWashed() {
        doc.term(9, "Then all PLACES are less FIRM by a tenth (cut) of SEA (0 at least).");
        int[][] rows = {{0, 30}, {9, 30}, {10, 29}, {19, 29}, {20, 28}, {89, 22}, {90, 21}, {99, 21}};
        for (int[] r : rows) {
            CausewayKept x = new CausewayKept();
            x.set(1, 0, r[0]);
            x.hour();
            for (int place = 0; place < 32; place++) {
                doc.due("sea " + r[0] + ", place " + place, x.told(place, 2), r[1]);
            }
        }
        CausewayKept x = new CausewayKept();
        x.set(1, 0, 99);
        int[][] low = {{0, 0, 0}, {1, 8, 0}, {30, 9, 0}, {31, 10, 1}};
        for (int[] l : low) {
            x.set(2, l[0], l[1]);
        }
        x.hour();
        for (int[] l : low) {
            doc.due("sea 99, place " + l[0] + " of " + l[1], x.told(l[0], 2), l[2]);
        }
    }

    private void quotientsAreCut() {
        doc.term(9, "Quotients are cut toward 0.");
        CausewayKept x = Check.ruled("paces 7;treads 9;doubts 0;");
        x.set(1, 0, 29);
        x.person(3, 0, 1);
        x.set(4, 0, 21);
        x.starts(0);
        x.hour();
        doc.due("half of 7 is 3", x.told(0, 5), 3);
        doc.due("half of 9 is 4, a tenth of 29 is 2", x.told(3, 2), 32);
        doc.due("where nobody went", x.told(4, 2), 28);
    }

    private void hourIsOneMore() {
        doc.term(9, "HOUR is 1 more.");
        CausewayKept x = calm("paces hour = 1;treads 0;doubts 0;", new int[] {1, 0, ON});
        int[] at = {0, 1, 1};
        for (int h = 0; h < 3; h++) {
            x.hour();
            doc.due("hour", x.told(0, 0), h + 1);
            doc.due("one goes in hour 1 alone", x.told(0, 5), at[h]);
        }
        x.set(0, 0, 998);
        x.hour();
        doc.due("the last one", x.count(2), 999);
    }

    // ---- promise 10

    /** One goes on, one is over behind one hour, one sinks in the fourth, on 28: 40 in doubt where it is 27 firm and trod by 3. */
    private static CausewayKept three() {
        CausewayKept x = calm("paces 2;treads 3;doubts 10 * (number = 2);", new int[] {1, 0, ON}, new int[] {-1, 1, ON},
            new int[] {1, 20, ON});
        x.set(1, 0, 19);
        return x;
    }

    private void runAnswers() {
        doc.of(10, "n HOURS: where one is AT (what 0), HOW (1), DOUBT (2), how many are OVER (3), SUNK (4),");
        CausewayKept x = three();
        int[][] now = {{0, 1, 0, 0, 0}, {1, 1, 0, 0, 0}, {20, 1, 0, 0, 0}};
        int[][] then = {{8, 1, 0, 1, 1}, {0, 3, 0, 1, 1}, {28, 2, 40, 1, 1}};
        for (int one = 0; one < 3; one++) {
            for (int what = 0; what <= 4; what++) {
                doc.due("run(" + one + ", 0, " + what + ")", x.run(one, 0, what), now[one][what]);
                doc.due("run(" + one + ", 4, " + what + ")", x.run(one, 4, what), then[one][what]);
            }
        }
    }

    private void runAnswersFirm() {
        doc.of(10, "FIRM of PLACE what less 10 (10 .. 41).");
        CausewayKept x = three();
        x.set(2, 0, 50);
        x.set(2, 31, 60);
        doc.due("run(0, 0, 10)", x.run(0, 0, 10), 50);
        doc.due("run(0, 0, 11)", x.run(0, 0, 11), 30);
        doc.due("run(0, 0, 40)", x.run(0, 0, 40), 30);
        doc.due("run(0, 0, 41)", x.run(0, 0, 41), 60);
        doc.due("run(0, 1, 10), trod by 1", x.run(0, 1, 10), 52);
        doc.due("run(0, 1, 41)", x.run(0, 1, 41), 59);
        doc.due("run(0, 0, 42)", x.run(0, 0, 42), -2);
        doc.due("run(0, 0, 9)", x.run(0, 0, 9), -2);
    }

    private void runIsBad() {
        doc.of(10, "BAD.");
        doc.due("of nobody", new CausewayKept().run(0, 0, 0), -2);
        CausewayKept x = three();
        for (int one : new int[] {MIN, -1, 3, 5, MAX}) {
            for (int what : new int[] {0, 3, 4, 10}) {
                doc.due("run(" + one + ", 1, " + what + ")", x.run(one, 1, what), -2);
            }
        }
        for (int n : new int[] {MIN, -1, 61, MAX}) {
            doc.due("run(0, " + n + ", 0)", x.run(0, n, 0), -2);
        }
        for (int what : new int[] {MIN, -1, 5, 6, 7, 8, 9, 42, 43, MAX}) {
            doc.due("run(0, 1, " + what + ")", x.run(0, 1, what), -2);
        }
        doc.due("run(2, 60, 41)", x.run(2, 60, 41), 0);
    }

    private void runIsInThought() {
        doc.term(10, "n HOURS (0 .. 60), in thought (there HOUR may pass 999):");
        CausewayKept x = calm("paces hour = 1058;treads 1;doubts 0;", new int[] {1, 0, ON});
        x.set(0, 0, 999);
        x.set(1, 0, 10);
        doc.due("firm behind 60 hours", x.run(0, 60, 41), 0);
        doc.due("behind 59 hours", x.run(0, 59, 0), 0);
        doc.due("behind 60 hours: goes in hour 1058", x.run(0, 60, 0), 1);
        doc.due("behind 61 hours", x.run(0, 61, 0), -2);
        doc.due("behind -1 hours", x.run(0, -1, 0), -2);
        doc.due("the hour stays", x.told(0, 0), 999);
        doc.due("one stays there", x.told(0, 5), 0);
        doc.due("places stay", x.told(31, 2), 30);
        doc.due("truly there is no such hour", x.hour(), -3);
    }

    private void whatRunTells() {
        doc.term(10, "where one is AT; HOW; DOUBT; how many are OVER, SUNK; FIRM of a PLACE.");
        CausewayKept x = three();
        CausewayKept truly = three();
        for (int n = 0; n <= 6; n++) {
            for (int one = 0; one < 3; one++) {
                doc.due("where " + one + " is behind " + n, x.run(one, n, 0), truly.told(one, 5));
                doc.due("how " + one + " is behind " + n, x.run(one, n, 1), truly.told(one, 6));
                doc.due("doubt of " + one + " behind " + n, x.run(one, n, 2), truly.told(one, 4));
            }
            doc.due("over behind " + n, x.run(0, n, 3), truly.way(4));
            doc.due("sunk behind " + n, x.run(0, n, 4), truly.way(3));
            for (int place = 0; place < 32; place += 31) {
                doc.due("firm of " + place + " behind " + n, x.run(0, n, 10 + place), truly.told(place, 2));
            }
            truly.hour();
        }
    }

    // ---- promise 11

    private void arrivesTells() {
        doc.of(11, "ARRIVES.");
        CausewayKept x = calm("paces 1;treads 9;doubts 0;", new int[] {1, 0, ON}, new int[] {-1, 31, ON}, new int[] {1, 31, ON},
            new int[] {-1, 0, ON}, new int[] {1, 7, OVER});
        int[] hours = {32, 32, 1, 1, 0};
        for (int one = 0; one < 5; one++) {
            doc.due("arrives(" + one + ")", x.arrives(one), hours[one]);
        }
        doc.due("in thought", x.told(0, 5), 0);
        doc.due("no hour has gone", x.told(0, 0), 0);
    }

    private void arrivesIsBad() {
        doc.of(11, "BAD;");
        doc.due("of nobody", new CausewayKept().arrives(0), -2);
        CausewayKept x = three();
        for (int one : new int[] {MIN, -1, 3, 5, MAX}) {
            doc.due("arrives(" + one + ")", x.arrives(one), -2);
        }
    }

    private void arrivesIsNone() {
        doc.of(11, "NONE.");
        CausewayKept x = calm("paces 1;treads 0;doubts 0;", new int[] {1, 31, HOME}, new int[] {-1, 31, SUNK});
        doc.due("at home", x.arrives(0), -1);
        doc.due("sunk", x.arrives(1), -1);
        CausewayKept y = calm("paces 0;treads 0;doubts 0;", new int[] {1, 31, ON});
        doc.due("at pace 0", y.arrives(0), -1);
    }

    private void arrivesFirst() {
        doc.term(11, "ARRIVES: behind how many HOURS (0 .. 60) one is OVER first; NONE.");
        int[][] rows = {{0, 1}, {1, 2}, {58, 59}, {59, 60}, {60, -1}, {61, -1}};
        for (int[] r : rows) {
            CausewayKept x = calm("paces 9 * (hour = " + r[0] + ");treads 0;doubts 0;", new int[] {1, 31, ON});
            doc.due("over in hour " + r[0], x.arrives(0), r[1]);
        }
        CausewayKept y = calm("paces 9 * (hour = 1058);treads 0;doubts 0;", new int[] {1, 31, ON});
        y.set(0, 0, 999);
        doc.due("past 999", y.arrives(0), 60);
        y.set(6, 0, OVER);
        doc.due("over now", y.arrives(0), 0);
    }

    // ---- promise 12

    private void wayTellsTheLeastFirm() {
        doc.of(12, "LEAST FIRM (what 0), how FIRM (1)");
        CausewayKept x = new CausewayKept();
        doc.due("at first", x.way(0), 0);
        doc.due("how firm at first", x.way(1), 30);
        for (int place : new int[] {31, 16, 1, 0}) {
            x.set(2, place, x.way(1) - 1);
            doc.due("way(0)", x.way(0), place);
        }
        doc.due("way(1)", x.way(1), 26);
        x.set(2, 31, 0);
        doc.due("way(0), 0 firm", x.way(0), 31);
        doc.due("way(1), 0 firm", x.way(1), 0);
    }

    private void wayTellsHowMany() {
        doc.of(12, "how many are ON it (2), SUNK (3), OVER (4).");
        CausewayKept x = new CausewayKept();
        for (int what = 2; what <= 4; what++) {
            doc.due("way(" + what + ") of nobody", x.way(what), 0);
        }
        for (int one = 0; one < 5; one++) {
            x.person(0, 0, 1);
        }
        for (int how = HOME; how <= OVER; how++) {
            for (int one = 0; one < 5; one++) {
                x.set(6, one, how);
            }
            for (int what = 2; what <= 4; what++) {
                doc.due("way(" + what + ") of five of HOW " + how, x.way(what), how == what - 1 ? 5 : 0);
            }
        }
    }

    private void wayIsBad() {
        doc.of(12, "BAD.");
        CausewayKept x = three();
        for (int what : new int[] {MIN, -2, -1, 5, 6, MAX}) {
            doc.due("way(" + what + ")", x.way(what), -2);
        }
    }

    private void leastFirm() {
        doc.term(12, "LEAST FIRM: the PLACE, of like ones the first; how FIRM.");
        CausewayKept x = new CausewayKept();
        int[][] rows = {{30, 29, 30}, {31, 29, 30}, {5, 29, 5}, {0, 29, 0}, {31, 28, 31}, {30, 28, 30}};
        for (int[] r : rows) {
            x.set(2, r[0], r[1]);
            doc.due("behind " + r[1] + " at " + r[0] + ": the place", x.way(0), r[2]);
            doc.due("behind " + r[1] + " at " + r[0] + ": how firm", x.way(1), r[1]);
        }
        for (int place = 0; place < 32; place++) {
            x.set(2, place, 99);
        }
        doc.due("all 99: the first", x.way(0), 0);
        doc.due("all 99", x.way(1), 99);
    }
}
