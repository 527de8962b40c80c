/** The sentences of promises 13 to 16: shifts, stands, leave, mean. */
final class BestSentences {
    private static final int MIN = Integer.MIN_VALUE, MAX = Integer.MAX_VALUE;
    private static final int HOME = 0, ON = 1, SUNK = 2, OVER = 3;

    private final Sentences doc;

    BestSentences(Sentences doc) {
        this.doc = doc;
    }

    void tell() {
        shiftsTellsDigits();
        shiftsTellsHowMany();
        shiftsIsBad();
        mostOver();
        fewestSunk();
        firstByNumber();
        digits();
        howManyThen();

        standsTells();
        standsIsBad();
        standsIsNone();
        highestSea();

        leaveTells();
        leaveTellsHowMany();
        leaveIsBad();
        fewestSunkWithoutOne();
        firstOfLikeOnes();

        meanInLowestTerms();
        meanIsNo();
        allPlacesTogether();
    }

    /** So many people at home by this rule, numbered as they came, all at this place. */
    private static CausewayKept people(int n, int place, String rule) {
        CausewayKept x = Check.ruled(rule);
        x.set(1, 0, 0);
        for (int i = 0; i < n; i++) {
            x.person(0, i, 1);
            x.set(5, i, place);
        }
        return x;
    }

    private void shiftsAre(String call, CausewayKept x, int n, int digits, int over, int sunk) {
        doc.due(call + ", " + n + " hours: digits", x.shifts(n, 0), digits);
        doc.due(call + ", " + n + " hours: over", x.shifts(n, 1), over);
        doc.due(call + ", " + n + " hours: sunk", x.shifts(n, 2), sunk);
    }

    // ---- promise 13

    private void shiftsTellsDigits() {
        doc.of(13, "SHIFTS (what 0; digits)");
        CausewayKept x = people(5, 31, "paces 1;treads 0;doubts 0;");
        doc.due("shifts(1, 0)", x.shifts(1, 0), 11111);
        doc.due("all at home still", x.way(2), 0);
        doc.due("no hour has gone", x.told(0, 0), 0);
        doc.due("of nobody", new CausewayKept().shifts(12, 0), 0);
    }

    private void shiftsTellsHowMany() {
        doc.of(13, "how many are OVER then (1), SUNK (2).");
        CausewayKept x = people(5, 31, "paces 1;treads 0;doubts 0;");
        doc.due("shifts(1, 1)", x.shifts(1, 1), 5);
        doc.due("shifts(1, 2)", x.shifts(1, 2), 0);
        doc.due("shifts(0, 1)", x.shifts(0, 1), 0);
        x.set(6, 0, OVER);
        x.set(6, 1, SUNK);
        doc.due("over now, n 0", x.shifts(0, 1), 1);
        doc.due("sunk now, n 0", x.shifts(0, 2), 1);
        doc.due("of nobody: over", new CausewayKept().shifts(12, 1), 0);
        doc.due("of nobody: sunk", new CausewayKept().shifts(12, 2), 0);
    }

    private void shiftsIsBad() {
        doc.of(13, "BAD.");
        CausewayKept x = people(1, 31, "paces 1;treads 0;doubts 0;");
        for (int n : new int[] {MIN, -1, 13, MAX}) {
            doc.due("shifts(" + n + ", 0)", x.shifts(n, 0), -2);
        }
        for (int what : new int[] {MIN, -1, 3, MAX}) {
            doc.due("shifts(0, " + what + ")", x.shifts(0, what), -2);
        }
        doc.due("shifts(0, 0)", x.shifts(0, 0), 1);
        doc.due("shifts(12, 2)", x.shifts(12, 2), 0);
    }

    /** One at 31 who is over by going in this hour, and sinks by any other. */
    private static CausewayKept overInHour(int hour) {
        CausewayKept x = people(1, 31, "paces hour = " + hour + ";treads 0;doubts 0;");
        x.set(4, 0, 40);
        return x;
    }

    private void mostOver() {
        doc.term(13, "SHIFTS (n 0 .. 12): of all ways in which those at HOME are each STARTED behind 0, 1 or 2 HOURS from now, or"
            + " not at all, that by which most are OVER behind n HOURS;");
        shiftsAre("over in hour 0", overInHour(0), 0, 1, 0, 0);
        shiftsAre("over in hour 0", overInHour(0), 1, 1, 1, 0);
        shiftsAre("over in hour 1", overInHour(1), 1, 2, 0, 0);
        shiftsAre("over in hour 1", overInHour(1), 2, 2, 1, 0);
        shiftsAre("over in hour 2", overInHour(2), 2, 3, 0, 0);
        shiftsAre("over in hour 2", overInHour(2), 3, 3, 1, 0);
        shiftsAre("over in hour 2", overInHour(2), 12, 3, 1, 0);
        shiftsAre("over in hour 3", overInHour(3), 3, 4, 0, 0);
        shiftsAre("over in hour 3", overInHour(3), 12, 4, 0, 0);
        CausewayKept from = overInHour(501);
        from.set(0, 0, 500);
        shiftsAre("from now", from, 2, 2, 1, 0);
        CausewayKept past = overInHour(1001);
        past.set(0, 0, 999);
        shiftsAre("past 999", past, 3, 3, 1, 0);
        CausewayKept twelfth = people(1, 31, "paces hour = 11;treads 0;doubts 0;");
        shiftsAre("over in hour 11", twelfth, 11, 1, 0, 0);
        shiftsAre("over in hour 11", twelfth, 12, 1, 1, 0);
        // each goes in the hour of its number, and sinks by any other
        CausewayKept five = people(5, 31, "paces hour = number;treads 0;doubts 0;");
        for (int i = 0; i < 5; i++) {
            five.set(4, i, 40);
        }
        shiftsAre("each in its hour", five, 12, 12344, 3, 0);
        // who is on it isn't started, nor left at home
        CausewayKept on = overInHour(2);
        on.starts(0);
        shiftsAre("who is on it", on, 3, 0, 0, 1);
    }

    private void fewestSunk() {
        doc.term(13, "of like ones by which fewest are SUNK then;");
        CausewayKept x = people(2, 27, "paces 9 * (number = 1);treads 0;doubts 40 * (number = 0) * met;");
        x.starts(0);
        // 0 sinks where it meets 1, who would be over: most over goes ahead
        shiftsAre("most over goes ahead", x, 1, 1, 1, 1);
        CausewayKept y = people(2, 0, "paces 0;treads 0;doubts 40;");
        shiftsAre("nobody need sink", y, 2, 33, 0, 0);
        y.starts(0);
        shiftsAre("one sinks anyway", y, 2, 3, 0, 1);
        CausewayKept z = people(1, 0, "paces 1;treads 0;doubts 0;");
        z.set(4, 0, 40);
        z.person(0, 1, 1);
        z.set(5, 1, 1);
        z.set(6, 1, SUNK);
        // 0 frees 1 by going to 1, and sinks there itself, each time it is started in time
        shiftsAre("one for another: like ones", z, 1, 10, 0, 1);
    }

    private void firstByNumber() {
        doc.term(13, "of these the first by who is numbered least (0, then 1, 2 HOURS, not), then the next one;");
        CausewayKept x = people(2, 0, "paces 0;treads 0;doubts 40 * met;");
        shiftsAre("who meets sinks", x, 0, 11, 0, 0);
        shiftsAre("who meets sinks", x, 1, 12, 0, 0);
        shiftsAre("who meets sinks", x, 2, 13, 0, 0);
        shiftsAre("who meets sinks", x, 3, 14, 0, 0);
        CausewayKept three = people(3, 0, "paces 0;treads 0;doubts 40 * met;");
        shiftsAre("of three", three, 1, 122, 0, 0);
        shiftsAre("of three", three, 3, 144, 0, 0);
        CausewayKept all = people(5, 0, "paces 0;treads 0;doubts 0;");
        shiftsAre("all are like", all, 12, 11111, 0, 0);
    }

    private void digits() {
        doc.term(13, "as digits (1 more than the HOURS; 4: not; 0: of one who isn't at HOME), that of 0 the highest;");
        CausewayKept x = people(5, 0, "paces 0;treads 0;doubts 40 * (hour = number);");
        shiftsAre("each sinks in the hour of its number", x, 0, 11111, 0, 0);
        shiftsAre("each sinks in the hour of its number", x, 1, 21111, 0, 0);
        shiftsAre("each sinks in the hour of its number", x, 2, 23111, 0, 0);
        shiftsAre("each sinks in the hour of its number", x, 3, 23411, 0, 0);
        shiftsAre("each sinks in the hour of its number", x, 5, 23444, 0, 0);
        x.set(6, 0, SUNK);
        shiftsAre("0 is sunk", x, 5, 3444, 0, 1);
        x.set(6, 4, OVER);
        shiftsAre("4 is over", x, 5, 3440, 1, 1);
        x.set(6, 2, ON);
        shiftsAre("2 is on it", x, 1, 1010, 1, 1);
        for (int i = 0; i < 5; i++) {
            x.set(6, i, OVER);
        }
        shiftsAre("nobody is at home", x, 12, 0, 5, 0);
    }

    private void howManyThen() {
        doc.term(13, "how many are OVER; SUNK.");
        CausewayKept x = people(5, 31, "paces number < 2;treads 0;doubts 40 * (1 < number);");
        for (int i = 0; i < 5; i++) {
            x.starts(i);
        }
        shiftsAre("behind 0 hours", x, 0, 0, 0, 0);
        shiftsAre("behind an hour", x, 1, 0, 2, 3);
    }

    // ---- promise 14

    private void standsTells() {
        doc.of(14, "STANDS.");
        CausewayKept x = people(1, 0, "paces 0;treads 0;doubts 0;");
        x.set(4, 0, 27);
        x.starts(0);
        // 27 of 30 are left behind one hour if 3 are washed away in it, behind three if 1 is
        doc.due("stands(1)", x.stands(1), 99);
        doc.due("stands(2)", x.stands(2), 39);
        doc.due("stands(4)", x.stands(4), 19);
        doc.due("stands(5)", x.stands(5), 9);
        doc.due("the sea stays", x.told(0, 1), 0);
        doc.due("one stays on it", x.told(0, 6), ON);
    }

    private void standsIsBad() {
        doc.of(14, "BAD;");
        CausewayKept x = new CausewayKept();
        for (int n : new int[] {MIN, -1, 0, 41, MAX}) {
            doc.due("stands(" + n + ")", x.stands(n), -2);
        }
        doc.due("stands(1)", x.stands(1), 99);
        doc.due("stands(40)", x.stands(40), 99);
    }

    private void standsIsNone() {
        doc.of(14, "NONE.");
        CausewayKept x = people(1, 0, "paces 0;treads 0;doubts 40;");
        x.starts(0);
        doc.due("sunk by any sea", x.stands(1), -1);
        doc.due("sunk by any sea, 40 hours", x.stands(40), -1);
    }

    private void highestSea() {
        doc.term(14, "STANDS (n 1 .. 40): the highest SEA (0 .. 99) by which nobody more is SUNK behind n HOURS than now; NONE.");
        int[] seas = {0, 1, 50, 98, 99};
        for (int sea : seas) {
            CausewayKept x = people(1, 0, "paces 0;treads 0;doubts 40 * (not sea = " + sea + ");");
            x.starts(0);
            doc.due("only by a sea of " + sea, x.stands(1), sea);
        }
        CausewayKept x = people(1, 0, "paces 0;treads 0;doubts 40 * (not (sea = 7 or sea = 50));");
        x.starts(0);
        doc.due("the highest of two", x.stands(1), 50);
        CausewayKept late = people(1, 0, "paces 0;treads 0;doubts 99 * (hour = 39 and 50 < sea);");
        late.starts(0);
        doc.due("behind 39 hours", late.stands(39), 99);
        doc.due("behind 40 hours", late.stands(40), 50);
        late.set(6, 0, SUNK);
        doc.due("sunk now, so nobody more", late.stands(40), 99);
        // 0 sinks, 1 goes to 1 and frees 2 there: as many are sunk as now
        CausewayKept other = people(3, 0, "paces number;treads 0;doubts 40 * (number = 0);");
        other.set(5, 2, 1);
        other.starts(0);
        other.set(6, 2, SUNK);
        doc.due("one more", other.stands(1), -1);
        other.starts(1);
        doc.due("one for another", other.stands(1), 99);
    }

    // ---- promise 15

    private void leaveTells() {
        doc.of(15, "LEAVE (what 0; NONE)");
        CausewayKept x = people(5, 0, "paces 0;treads 0;doubts 40 * (number = 4);");
        doc.due("all at home", x.leave(1, 0), -1);
        for (int i = 0; i < 5; i++) {
            x.starts(i);
        }
        doc.due("the last", x.leave(1, 0), 4);
        doc.due("is on it still", x.told(4, 6), ON);
        doc.due("of nobody", new CausewayKept().leave(40, 0), -1);
    }

    private void leaveTellsHowMany() {
        doc.of(15, "how many are SUNK then (1; as so).");
        CausewayKept x = people(3, 0, "paces 0;treads 0;doubts 40 * (number = 1);");
        x.set(6, 2, SUNK);
        doc.due("none leaves: as so", x.leave(1, 1), 1);
        x.starts(0);
        doc.due("none leaves still: as so", x.leave(1, 1), 1);
        x.starts(1);
        doc.due("1 leaves", x.leave(1, 0), 1);
        doc.due("then one is sunk", x.leave(1, 1), 1);
        doc.due("instead of two", x.run(0, 1, 4), 2);
        doc.due("of nobody", new CausewayKept().leave(40, 1), 0);
    }

    private void leaveIsBad() {
        doc.of(15, "BAD.");
        CausewayKept x = new CausewayKept();
        for (int n : new int[] {MIN, -1, 0, 41, MAX}) {
            doc.due("leave(" + n + ", 0)", x.leave(n, 0), -2);
        }
        for (int what : new int[] {MIN, -1, 2, MAX}) {
            doc.due("leave(1, " + what + ")", x.leave(1, what), -2);
        }
        doc.due("leave(1, 0)", x.leave(1, 0), -1);
        doc.due("leave(40, 1)", x.leave(40, 1), 0);
    }

    private void fewestSunkWithoutOne() {
        doc.term(15, "LEAVE (n 1 .. 40): who, of those ON it, being at HOME instead now, would have fewest SUNK behind n HOURS, if"
            + " fewer than so;");
        CausewayKept late = people(1, 0, "paces 0;treads 0;doubts 99 * (hour = 39);");
        late.starts(0);
        doc.due("behind 39 hours nobody is sunk", late.leave(39, 0), -1);
        doc.due("behind 40 hours", late.leave(40, 0), 0);
        doc.due("then nobody", late.leave(40, 1), 0);
        for (int how : new int[] {HOME, SUNK, OVER}) {
            late.set(6, 0, how);
            doc.due("not on it, but HOW " + how, late.leave(40, 0), -1);
            doc.due("sunk of HOW " + how, late.leave(40, 1), how == SUNK ? 1 : 0);
        }
        // two at 5 who sink by meeting, three at 0 likewise: without one of the two both are saved
        CausewayKept x = people(5, 0, "paces 0;treads 0;doubts 40 * met;");
        x.set(5, 3, 5);
        x.set(5, 4, 5);
        for (int i = 0; i < 5; i++) {
            x.starts(i);
        }
        doc.due("fewest: 3, though 0 .. 2 are less", x.leave(1, 0), 3);
        doc.due("three sunk", x.leave(1, 1), 3);
        // 0 frees 1 by coming to it, and sinks there: without it 1 stays sunk, which is no fewer
        CausewayKept y = people(2, 0, "paces 1;treads 0;doubts 40 * (number = 0);");
        y.set(5, 1, 1);
        y.set(6, 1, SUNK);
        y.starts(0);
        doc.due("not fewer", y.leave(1, 0), -1);
        doc.due("one is sunk, as so", y.leave(1, 1), 1);
    }

    private void firstOfLikeOnes() {
        doc.term(15, "of like ones the first; NONE.");
        CausewayKept x = people(5, 0, "paces 0;treads 0;doubts 40;");
        for (int i = 1; i < 5; i++) {
            x.starts(i);
        }
        doc.due("of four", x.leave(1, 0), 1);
        doc.due("three are sunk", x.leave(1, 1), 3);
        x.starts(0);
        doc.due("of five", x.leave(1, 0), 0);
        CausewayKept y = people(5, 0, "paces 0;treads 0;doubts 0;");
        for (int i = 0; i < 5; i++) {
            y.starts(i);
        }
        doc.due("nobody sinks: none", y.leave(40, 0), -1);
    }

    // ---- promise 16

    private static CausewayKept firm(int all, int first) {
        CausewayKept x = new CausewayKept();
        for (int place = 0; place < 32; place++) {
            x.set(2, place, place == 0 ? first : all);
        }
        return x;
    }

    private void meanInLowestTerms() {
        doc.of(16, "MEAN: part 0 above, 1 below the line, in lowest terms.");
        // all and the first, what is above, what is below
        int[][] rows = {{30, 30, 30, 1}, {0, 0, 0, 1}, {99, 99, 99, 1}, {0, 1, 1, 32}, {0, 2, 1, 16}, {0, 16, 1, 2}, {0, 32, 1, 1},
            {0, 48, 3, 2}, {0, 99, 99, 32}, {30, 31, 961, 32}, {99, 98, 3167, 32}, {99, 97, 1583, 16}};
        for (int[] r : rows) {
            CausewayKept x = firm(r[0], r[1]);
            doc.due(r[0] + " and once " + r[1] + ": above", x.mean(0), r[2]);
            doc.due(r[0] + " and once " + r[1] + ": below", x.mean(1), r[3]);
        }
    }

    private void meanIsNo() {
        doc.of(16, "NO: part.");
        CausewayKept x = new CausewayKept();
        for (int part : new int[] {MIN, -2, -1, 2, 3, MAX}) {
            doc.due("mean(" + part + ")", x.mean(part), CausewayKept.NO);
        }
    }

    private void allPlacesTogether() {
        doc.term(16, "MEAN: FIRM of all PLACES, together, by how many there are.");
        for (int place = 0; place < 32; place += 31) {
            CausewayKept x = new CausewayKept();
            x.set(2, place, 31);
            doc.due("961 of 32, by place " + place, x.mean(0), 961);
            doc.due("by how many", x.mean(1), 32);
        }
    }
}
