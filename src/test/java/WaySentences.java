/** The sentences of promises 1 to 4: a new object, set, person, told. */
final class WaySentences {
    private static final int MIN = Integer.MIN_VALUE, MAX = Integer.MAX_VALUE;
    private static final int[] FAR = {MIN, MIN + 1, -1000, -2, -1, 1000, MAX - 1, MAX};
    // 9999 * 9999 * 12, more than half of what an int holds; and the least int
    private static final String HUGE = "9999*9999*12", LEAST = "(9999*9999*21+9999*4790+8417)";

    private final Sentences doc;

    WaySentences(Sentences doc) {
        this.doc = doc;
    }

    void tell() {
        placesAtFirst();
        nobodyAtFirst();
        placesAreThirtyTwo();
        hourAndSeaAtFirst();
        sheetsAtFirst();
        refusalsAreNumbers();
        noneAndNo();

        setHour();
        setSea();
        setFirm();
        setOfOne();
        setAnswersWhatItWas();
        setIsBad();
        hoursThatCanBeSet();
        numbersThatCanBeSet();
        doubtsThatCanBeSet();
        placesOneCanBeSetAt();
        howOneCanBeSet();

        personIsNumbered();
        kindsOfAPerson();
        numbersOfAPerson();
        waysOfAPerson();
        personIsFull();
        fivePeopleAtMost();
        kindsThatAre();
        waysThatAre();

        toldAsOfSet();
        toldKind();
        toldWay();
        toldPace();
        toldTreads();
        toldDoubts();
        toldWhoIsAtAPlace();
        toldNoneSuch();
        paceOfAWalker();
        paceOfAClerk();
        paceOfAnOldOne();
        paceOfAChild();
        paceOfOneOfLetters();
        paceOfAYoungOneAndItsBound();
        pacesBound();
        treadsOfAWalker();
        treadsOfAClerk();
        treadsOfAnOldOne();
        treadsOfAChild();
        treadsOfOneOfLetters();
        treadsOfAYoungOne();
        treadsAreBoundOnce();
        doubtsOfAWalker();
        doubtsOfAClerk();
        doubtsOfAnOldOne();
        doubtsOfAChild();
        doubtsOfOneOfLetters();
        doubtsOfAYoungOne();
        treadsAndDoubtsBound();
    }

    private static CausewayKept withPeople(int n) {
        CausewayKept x = new CausewayKept();
        for (int i = 0; i < n; i++) {
            x.person(0, i, i % 2 == 0 ? 1 : -1);
        }
        return x;
    }

    /** One who comes behind another, in doubt and sunk, who is gone by an image. */
    private static CausewayKept comesAfterAnother(int way) {
        CausewayKept x = new CausewayKept();
        x.image();
        x.person(4, 8, -way);
        x.set(4, 0, 50);
        x.set(5, 0, 7);
        x.set(6, 0, 2);
        x.back();
        x.person(2, 3, way);
        return x;
    }

    // ---- promise 1

    private void placesAtFirst() {
        doc.of(1, "All PLACES 30 FIRM");
        CausewayKept other = new CausewayKept();
        other.set(2, 0, 7);
        other.set(2, 31, 7);
        CausewayKept x = new CausewayKept();
        for (int place = 0; place < 32; place++) {
            doc.due("told(" + place + ", 2)", x.told(place, 2), 30);
        }
    }

    private void nobodyAtFirst() {
        doc.of(1, "nobody");
        doc.due("another one's people", withPeople(5).count(0), 5);
        CausewayKept x = new CausewayKept();
        doc.due("count(0)", x.count(0), 0);
        doc.due("told(0, 7)", x.told(0, 7), -1000);
        doc.due("starts(0)", x.starts(0), -2);
        for (int what = 2; what <= 4; what++) {
            doc.due("way(" + what + ")", x.way(what), 0);
        }
        doc.due("told(0, 12)", x.told(0, 12), 0);
        doc.due("told(31, 12)", x.told(31, 12), 0);
    }

    private void placesAreThirtyTwo() {
        doc.term(1, "PLACES 0 .. 31: FIRM (0 .. 99; 30 at first).");
        CausewayKept x = new CausewayKept();
        doc.due("told(0, 2)", x.told(0, 2), 30);
        doc.due("told(31, 2)", x.told(31, 2), 30);
        doc.due("told(-1, 2)", x.told(-1, 2), -1000);
        doc.due("told(32, 2)", x.told(32, 2), -1000);
        doc.due("firm 0", x.set(2, 31, 0), 30);
        doc.due("firm 99", x.set(2, 31, 99), 0);
        doc.due("firm -1", x.set(2, 31, -1), -2);
        doc.due("firm 100", x.set(2, 31, 100), -2);
        doc.due("firm stays", x.told(31, 2), 99);
    }

    private void hourAndSeaAtFirst() {
        doc.term(1, "HOUR (0 .. 999; 0 at first), SEA (0 .. 99; 10).");
        CausewayKept x = new CausewayKept();
        doc.due("hour at first", x.told(0, 0), 0);
        doc.due("sea at first", x.told(0, 1), 10);
        doc.due("sea 0", x.set(1, 0, 0), 10);
        doc.due("sea 99", x.set(1, 0, 99), 0);
        doc.due("sea -1", x.set(1, 0, -1), -2);
        doc.due("sea 100", x.set(1, 0, 100), -2);
        doc.due("sea stays", x.told(0, 1), 99);
    }

    private void sheetsAtFirst() {
        doc.term(1, "SHEETS 0 .. 3 are rows of numbers, or missing (as all are at first)");
        CausewayKept x = new CausewayKept();
        for (int sheet = 0; sheet < 4; sheet++) {
            doc.due("cell(" + sheet + ", 0, 0)", x.cell(sheet, 0, 0), -11);
            doc.due("sheet(" + sheet + ", 2, 1)", x.sheet(sheet, 2, 1), 1);
            doc.due("cell(" + sheet + ", 0, 0) then", x.cell(sheet, 0, 0), 1);
        }
        doc.due("cell(-1, 0, 0)", x.cell(-1, 0, 0), -2);
        doc.due("cell(4, 0, 0)", x.cell(4, 0, 0), -2);
    }

    private void refusalsAreNumbers() {
        doc.term(1, "Refusals, the first that the call's words name; they change nothing: BAD (-2: a number is none such or"
            + " not as told), STATE (-3), FULL (-4)");
        doc.due("BAD", CausewayKept.BAD, -2);
        doc.due("STATE", CausewayKept.STATE, -3);
        doc.due("FULL", CausewayKept.FULL, -4);
        CausewayKept x = fullOne();
        CausewayKept twin = fullOne();
        doc.due("a sixth, of kind 6: BAD ahead of FULL", x.person(6, 0, 1), -2);
        doc.due("a sixth", x.person(0, 0, 1), -4);
        doc.due("one on it can't start", x.starts(0), -3);
        doc.due("nor one who is none such", x.starts(5), -2);
        refusedCalls(x);
        String[] names = {"hour", "sea", "firm", "number", "doubt", "at", "how", "kind", "way", "pace", "treads", "doubts", "who is at"};
        for (int what = 0; what <= 12; what++) {
            for (int of = 0; of < (what == 2 || what == 12 ? 32 : 5); of++) {
                doc.due(names[what] + " of " + of + " as it was", x.told(of, what), twin.told(of, what));
            }
        }
        for (int what = 0; what <= 5; what++) {
            doc.due("count(" + what + ") as it was", x.count(what), twin.count(what));
        }
        for (int sheet = 0; sheet <= 3; sheet++) {
            doc.due("sheet " + sheet + " as it was", x.places(sheet, 1), twin.places(sheet, 1));
            doc.due("its sort and size as they were", x.copy(sheet, 0, 0, 0, 2), twin.copy(sheet, 0, 0, 0, 2));
        }
    }

    /** One who is on it and four others, texts, a tape, sheets 0 of bytes and 1 of ints, and the last hour. */
    private static CausewayKept fullOne() {
        CausewayKept x = withPeople(5);
        x.starts(0);
        x.set(5, 1, 7);
        for (int i = 1; i <= 5; i++) {
            Check.read(x, "paces 1;treads 0;doubts 0;");
        }
        x.force(2);
        Check.feed(x, "paces");
        Check.lay(x, 0, 0, 7, 7);
        Check.lay(x, 1, 2, 7, 7, 8);
        x.set(0, 0, 999);
        return x;
    }

    private void refusedCalls(CausewayKept x) {
        int[][] answersAndRefusals = {
            {x.set(0, 0, 1000), -2}, {x.set(2, 32, 1), -2}, {x.set(3, 0, 10), -2}, {x.set(6, 0, 4), -2}, {x.set(7, 0, 1), -2},
            {x.person(0, 10, 1), -2}, {x.person(0, 0, 0), -2}, {x.told(0, 13), -1000}, {x.feed(256), -2}, {x.text(), -4},
            {x.force(6), -2}, {x.hour(), -3}, {x.run(0, 61, 0), -2}, {x.arrives(5), -2}, {x.way(5), -2}, {x.shifts(13, 0), -2},
            {x.stands(0), -2}, {x.leave(41, 0), -2}, {x.tells(2, 0, 0), -11}, {x.tells(0, 0, 8), -2}, {x.film(0, 0, 21), -2},
            {x.film(2, 5, 1), -2}, {x.drawn(1, 41), -2}, {x.back(), -3}, {x.count(6), -2}, {x.sheet(0, 0, 41), -2},
            {x.sheet(1, 3, 1), -2}, {x.sheet(0, 1, -1), -14}, {x.sheet(2, 2, -1), -14}, {x.cell(0, 2, 9), -12}, {x.cell(2, 0, 9), -11},
            {x.copy(1, 0, 0, 0, 1), -13}, {x.copy(1, 2, 1, 0, 2), -12}, {x.copy(0, 0, 2, 0, 1), -11}, {x.family(0, 1, 0, 1), -13},
            {x.family(2, 0, 0, 1), -11}, {x.family(0, 0, 0, 1), -12}, {x.taken(0, 6), -2}, {x.taken(5, 0), -11}, {x.taken(0, 1), -13}};
        for (int i = 0; i < answersAndRefusals.length; i++) {
            doc.due("refused call " + i, answersAndRefusals[i][0], answersAndRefusals[i][1]);
        }
    }

    private void noneAndNo() {
        doc.term(1, "NONE is -1; NO, where a long is answered, -4611686018427387904.");
        doc.due("NONE", CausewayKept.NONE, -1);
        doc.due("NO", CausewayKept.NO, -4611686018427387904L);
        CausewayKept x = withPeople(1);
        doc.due("arrives(0)", x.arrives(0), -1);
        doc.due("mean(2)", x.mean(2), -4611686018427387904L);
        doc.due("places(0, 0)", x.places(0, 0), -4611686018427387904L);
        doc.due("chance(0, 0, 0, 0)", x.chance(0, 0, 0, 0), -4611686018427387904L);
    }

    // ---- promise 2

    private void whateverOf(int what, int atFirst) {
        CausewayKept x = new CausewayKept();
        int was = atFirst;
        int v = 20;
        for (int of : new int[] {MIN, -1, 0, 5, 31, 32, MAX}) {
            doc.due("set(" + what + ", " + of + ", " + v + ")", x.set(what, of, v), was);
            was = v;
            v++;
        }
        doc.due("so it is", x.told(0, what), was);
    }

    private void setHour() {
        doc.of(2, "HOUR (what 0; of does not matter)");
        whateverOf(0, 0);
    }

    private void setSea() {
        doc.of(2, "SEA (1; nor)");
        whateverOf(1, 10);
    }

    private void setFirm() {
        doc.of(2, "FIRM of a PLACE (2)");
        CausewayKept x = withPeople(1);
        for (int of : FAR) {
            doc.due("set(2, " + of + ", 5)", x.set(2, of, 5), -2);
        }
        doc.due("set(2, 32, 5)", x.set(2, 32, 5), -2);
        doc.due("set(2, 0, 5)", x.set(2, 0, 5), 30);
        doc.due("set(2, 31, 6)", x.set(2, 31, 6), 30);
        doc.due("place 0", x.told(0, 2), 5);
        doc.due("place 1", x.told(1, 2), 30);
        doc.due("place 30", x.told(30, 2), 30);
        doc.due("place 31", x.told(31, 2), 6);
    }

    private void setOfOne() {
        doc.of(2, "NUMBER (3), DOUBT (4), where one is AT (5), HOW (6) of one of PEOPLE");
        for (int what = 3; what <= 6; what++) {
            doc.due("set(" + what + ", 0, 2) of nobody", new CausewayKept().set(what, 0, 2), -2);
            CausewayKept x = withPeople(5);
            int was = x.told(4, what);
            for (int of : FAR) {
                doc.due("set(" + what + ", " + of + ", 2)", x.set(what, of, 2), -2);
            }
            doc.due("set(" + what + ", 5, 2)", x.set(what, 5, 2), -2);
            doc.due("set(" + what + ", 4, 2)", x.set(what, 4, 2), was);
            doc.due("of the last one", x.told(4, what), 2);
            doc.due("of the first one", x.told(0, what), 0);
            doc.due("of the one between", x.told(3, what), what == 3 ? 3 : what == 5 ? 31 : 0);
        }
        CausewayKept y = withPeople(2);
        doc.due("2 is none such of two", y.set(3, 2, 2), -2);
    }

    private void setAnswersWhatItWas() {
        doc.of(2, "becomes v: what it was");
        for (int what = 0; what <= 6; what++) {
            CausewayKept x = withPeople(1);
            int was = x.told(0, what);
            doc.due("set(" + what + ", 0, 3)", x.set(what, 0, 3), was);
            doc.due("set(" + what + ", 0, 3) again", x.set(what, 0, 3), 3);
            doc.due("set(" + what + ", 0, 0)", x.set(what, 0, 0), 3);
            doc.due("refused", x.set(what, 0, -1), -2);
            doc.due("set(" + what + ", 0, 1)", x.set(what, 0, 1), 0);
            doc.due("told(0, " + what + ")", x.told(0, what), 1);
        }
    }

    private void setIsBad() {
        doc.of(2, "BAD");
        CausewayKept x = withPeople(1);
        for (int what : FAR) {
            doc.due("set(" + what + ", 0, 0)", x.set(what, 0, 0), -2);
        }
        for (int what = 7; what <= 12; what++) {
            doc.due("set(" + what + ", 0, 0)", x.set(what, 0, 0), -2);
        }
        for (int what = 0; what <= 6; what++) {
            int was = x.told(0, what);
            for (int v : FAR) {
                doc.due("set(" + what + ", 0, " + v + ")", x.set(what, 0, v), -2);
            }
            doc.due("stays", x.told(0, what), was);
        }
        doc.due("kind stays", x.told(0, 7), 0);
        doc.due("way stays", x.told(0, 8), 2);
    }

    private void canBeSet(int what, int of, int atFirst, int most) {
        CausewayKept x = withPeople(2);
        doc.due("set(" + what + ", .., -1)", x.set(what, of, -1), -2);
        doc.due("set(" + what + ", .., " + (most + 1) + ")", x.set(what, of, most + 1), -2);
        doc.due("set(" + what + ", .., 0)", x.set(what, of, 0), atFirst);
        doc.due("set(" + what + ", .., " + most + ")", x.set(what, of, most), 0);
        doc.due("set(" + what + ", .., " + (most + 1) + ") then", x.set(what, of, most + 1), -2);
        doc.due("so it is", x.told(of, what), most);
    }

    private void hoursThatCanBeSet() {
        doc.term(2, "HOUR (0 .. 999");
        canBeSet(0, 0, 0, 999);
    }

    private void numbersThatCanBeSet() {
        doc.term(2, "a NUMBER (0 .. 9)");
        canBeSet(3, 0, 0, 9);
        canBeSet(3, 1, 1, 9);
    }

    private void doubtsThatCanBeSet() {
        doc.term(2, "DOUBT (0 .. 99; 0 as one comes)");
        canBeSet(4, 0, 0, 99);
        canBeSet(4, 1, 0, 99);
        doc.due("as one comes", withPeople(1).told(0, 4), 0);
        doc.due("as one comes where another was", comesAfterAnother(1).told(0, 4), 0);
    }

    private void placesOneCanBeSetAt() {
        doc.term(2, "are AT a PLACE (as one comes: 0 by WAY 1, 31 by WAY -1)");
        canBeSet(5, 0, 0, 31);
        canBeSet(5, 1, 31, 31);
        doc.due("as one comes where another was, by WAY 1", comesAfterAnother(1).told(0, 5), 0);
        doc.due("as one comes where another was, by WAY -1", comesAfterAnother(-1).told(0, 5), 31);
    }

    private void howOneCanBeSet() {
        doc.term(2, "HOW: 0 at HOME (so as one comes), 1 ON it, 2 SUNK, 3 OVER.");
        canBeSet(6, 0, 0, 3);
        canBeSet(6, 1, 0, 3);
        doc.due("as one comes where another was", comesAfterAnother(1).told(0, 6), 0);
        CausewayKept x = withPeople(1);
        for (int how = 0; how <= 3; how++) {
            x.set(6, 0, how);
            doc.due("on it, of HOW " + how, x.way(2), how == 1 ? 1 : 0);
            doc.due("sunk, of HOW " + how, x.way(3), how == 2 ? 1 : 0);
            doc.due("over, of HOW " + how, x.way(4), how == 3 ? 1 : 0);
            doc.due("starts, of HOW " + how, x.starts(0), how == 0 ? 1 : -3);
        }
    }

    // ---- promise 3

    private void personIsNumbered() {
        doc.of(3, "One of PEOPLE: the number.");
        CausewayKept x = new CausewayKept();
        for (int i = 0; i < 5; i++) {
            doc.due("person " + i, x.person(5 - i, 9 - i, -1), i);
            doc.due("how many there are", x.count(0), i + 1);
            doc.due("its kind", x.told(i, 7), 5 - i);
            doc.due("its number", x.told(i, 3), 9 - i);
            doc.due("its doubt", x.told(i, 4), 0);
            doc.due("where it is", x.told(i, 5), 31);
            doc.due("at home", x.told(i, 6), 0);
        }
        CausewayKept y = comesAfterAnother(1);
        doc.due("its kind, not another's", y.told(0, 7), 2);
        doc.due("its number, not another's", y.told(0, 3), 3);
        doc.due("its way, not another's", y.told(0, 8), 2);
    }

    private void kindsOfAPerson() {
        doc.of(3, "BAD: kind");
        CausewayKept x = new CausewayKept();
        for (int kind : FAR) {
            doc.due("person(" + kind + ", 0, 1)", x.person(kind, 0, 1), -2);
        }
        doc.due("person(6, 0, 1)", x.person(6, 0, 1), -2);
        doc.due("nobody came", x.count(0), 0);
        doc.due("person(5, 0, 1)", x.person(5, 0, 1), 0);
        doc.due("person(0, 0, 1)", x.person(0, 0, 1), 1);
    }

    private void numbersOfAPerson() {
        doc.of(3, "kind, number");
        CausewayKept x = new CausewayKept();
        for (int number : FAR) {
            doc.due("person(0, " + number + ", 1)", x.person(0, number, 1), -2);
        }
        doc.due("person(0, 10, 1)", x.person(0, 10, 1), -2);
        doc.due("nobody came", x.count(0), 0);
        doc.due("person(0, 9, 1)", x.person(0, 9, 1), 0);
        doc.due("person(0, 0, 1)", x.person(0, 0, 1), 1);
    }

    private void waysOfAPerson() {
        doc.of(3, "way (1, -1)");
        CausewayKept x = new CausewayKept();
        for (int way : new int[] {MIN, -1000, -2, 0, 2, 31, MAX}) {
            doc.due("person(0, 0, " + way + ")", x.person(0, 0, way), -2);
        }
        doc.due("nobody came", x.count(0), 0);
        doc.due("person(0, 0, -1)", x.person(0, 0, -1), 0);
        doc.due("at 31", x.told(0, 5), 31);
        doc.due("person(0, 0, 1)", x.person(0, 0, 1), 1);
        doc.due("at 0", x.told(1, 5), 0);
    }

    private void personIsFull() {
        doc.of(3, "FULL");
        CausewayKept x = withPeople(5);
        doc.due("a sixth", x.person(1, 8, -1), -4);
        doc.due("a sixth of no kind", x.person(-1, 8, -1), -2);
        doc.due("a sixth of no number", x.person(1, 10, -1), -2);
        doc.due("a sixth of no way", x.person(1, 8, 0), -2);
        doc.due("five", x.count(0), 5);
        doc.due("the last is as it was", x.told(4, 3), 4);
        doc.due("the sixth isn't there", x.told(5, 3), -1000);
    }

    private void fivePeopleAtMost() {
        doc.term(3, "PEOPLE (5 at most, numbered from 0)");
        CausewayKept x = withPeople(4);
        doc.due("told(4, 7)", x.told(4, 7), -1000);
        doc.due("a fifth", x.person(0, 0, 1), 4);
        doc.due("a sixth", x.person(0, 0, 1), -4);
        doc.due("told(0, 7)", x.told(0, 7), 0);
        doc.due("told(4, 7)", x.told(4, 7), 0);
        doc.due("told(5, 7)", x.told(5, 7), -1000);
        doc.due("told(-1, 7)", x.told(-1, 7), -1000);
        x.image();
        doc.due("five come back", x.back(), 5);
        doc.due("a sixth behind that", x.person(0, 0, 1), -4);
    }

    private void kindsThatAre() {
        doc.term(3, "have a KIND: 0 WALKER, 1 CLERK under WALKER, 2 OLD under WALKER, 3 CHILD under CLERK, 4 LETTERS under OLD,"
            + " 5 YOUNG under WALKER;");
        // paces 4 of one in doubt and numbered 2: 4, half of it, 1 less, half and 2, 1 less, twice
        int[] pace = {4, 2, 3, 4, 3, 8};
        for (int kind = 0; kind < 6; kind++) {
            CausewayKept x = Check.ruled("paces 4;treads 0;doubts 0;");
            doc.due("person of kind " + kind, x.person(kind, 2, 1), 0);
            doc.due("its kind", x.told(0, 7), kind);
            x.set(4, 0, 50);
            doc.due("its pace", x.told(0, 9), pace[kind]);
        }
    }

    private void waysThatAre() {
        doc.term(3, "a WAY (1: to the greater numbers, or -1)");
        CausewayKept x = Check.ruled("paces 1;treads 0;doubts 0;");
        x.person(0, 0, 1);
        x.person(0, 0, -1);
        x.starts(0);
        x.starts(1);
        doc.due("1: from 0 to 1", x.run(0, 1, 0), 1);
        doc.due("-1: from 31 to 30", x.run(1, 1, 0), 30);
    }

    // ---- promise 4

    private void toldAsOfSet() {
        doc.of(4, "What 0 .. 6 as of set()");
        CausewayKept x = withPeople(2);
        int[][] laid = {{0, 0, 998}, {1, 0, 98}, {2, 0, 97}, {2, 31, 96}, {3, 1, 8}, {4, 1, 95}, {5, 1, 30}, {6, 1, 2}};
        for (int[] l : laid) {
            x.set(l[0], l[1], l[2]);
        }
        for (int[] l : laid) {
            doc.due("told(" + l[1] + ", " + l[0] + ")", x.told(l[1], l[0]), l[2]);
        }
        for (int of : FAR) {
            doc.due("hour, of " + of, x.told(of, 0), 998);
            doc.due("sea, of " + of, x.told(of, 1), 98);
        }
    }

    private void toldKind() {
        doc.of(4, "7 KIND");
        CausewayKept x = new CausewayKept();
        for (int kind = 5; kind > 0; kind--) {
            x.person(kind, 0, 1);
        }
        for (int one = 0; one < 5; one++) {
            doc.due("told(" + one + ", 7)", x.told(one, 7), 5 - one);
        }
    }

    private void toldWay() {
        doc.of(4, "8 WAY (1 more)");
        CausewayKept x = withPeople(2);
        doc.due("way 1", x.told(0, 8), 2);
        doc.due("way -1", x.told(1, 8), 0);
    }

    private void toldPace() {
        doc.of(4, "9 PACE");
        doc.due("0", ruled(9, "0", 0, 0, 0, 0), 0);
        doc.due("9", ruled(9, "9", 0, 0, 0, 0), 9);
        doc.due("10", ruled(9, "10", 0, 0, 0, 0), 9);
        doc.due("-1", ruled(9, "-1", 0, 0, 0, 0), 0);
        for (int how = 0; how <= 3; how++) {
            CausewayKept x = withPeople(1);
            x.set(6, 0, how);
            doc.due("whatever HOW: " + how, x.told(0, 9), 3);
        }
    }

    private void toldTreads() {
        doc.of(4, "10 TREADS");
        doc.due("0", ruled(10, "0", 0, 0, 0, 0), 0);
        doc.due("99", ruled(10, "99", 0, 0, 0, 0), 99);
        doc.due("-1", ruled(10, "-1", 0, 0, 0, 0), 0);
        doc.due("at first", withPeople(1).told(0, 10), 5);
    }

    private void toldDoubts() {
        doc.of(4, "11 DOUBTS (1000 more) of one of PEOPLE");
        doc.due("0", ruled(11, "0", 0, 0, 0, 0), 1000);
        doc.due("99", ruled(11, "99", 0, 0, 0, 0), 1099);
        doc.due("-99", ruled(11, "-99", 0, 0, 0, 0), 901);
        doc.due("198 of a young one", ruled(11, "99", 5, 0, 0, 0), 1198);
        doc.due("-198 of a young one", ruled(11, "-99", 5, 0, 0, 0), 802);
        doc.due("at first", withPeople(1).told(0, 11), 1002);
    }

    private void toldWhoIsAtAPlace() {
        doc.of(4, "12 who are AT a PLACE, ON it or SUNK (bits)");
        CausewayKept x = withPeople(5);
        for (int place : new int[] {0, 31}) {
            for (int one = 0; one < 5; one++) {
                x.set(5, one, place);
                x.set(6, one, 0);
            }
            doc.due("all at home", x.told(place, 12), 0);
            x.set(6, 0, 1);
            x.set(6, 4, 2);
            doc.due("the first and the last", x.told(place, 12), 1 + 16);
            x.set(6, 3, 3);
            doc.due("one over", x.told(place, 12), 1 + 16);
            doc.due("the next place in", x.told(place == 0 ? 1 : 30, 12), 0);
            for (int one = 0; one < 5; one++) {
                x.set(6, one, 1);
            }
            doc.due("all five", x.told(place, 12), 31);
        }
    }

    private void toldNoneSuch() {
        doc.of(4, "-1000: none such");
        CausewayKept x = withPeople(5);
        for (int what : FAR) {
            doc.due("told(0, " + what + ")", x.told(0, what), -1000);
        }
        doc.due("told(0, 13)", x.told(0, 13), -1000);
        for (int of : FAR) {
            for (int what = 2; what <= 12; what++) {
                doc.due("told(" + of + ", " + what + ")", x.told(of, what), -1000);
            }
        }
        for (int what = 3; what <= 11; what++) {
            doc.due("told(5, " + what + ")", x.told(5, what), -1000);
        }
        doc.due("told(32, 2)", x.told(32, 2), -1000);
        doc.due("told(32, 12)", x.told(32, 12), -1000);
    }

    /** What is told of one of a kind, a number and a doubt, in an hour, by a rule whose three parts are all this E. */
    private static int ruled(int what, String e, int kind, int number, int doubt, int hour) {
        CausewayKept x = Check.ruled("paces " + e + ";treads " + e + ";doubts " + e + ";");
        x.person(kind, number, 1);
        x.set(4, 0, doubt);
        x.set(0, 0, hour);
        return x.told(0, what);
    }

    /** The same of one of kind 4 who meets so many on it. */
    private static int ruledMeeting(int what, String e, int number, int met) {
        CausewayKept x = Check.ruled("paces " + e + ";treads " + e + ";doubts " + e + ";");
        x.person(4, number, 1);
        x.starts(0);
        for (int i = 0; i < met; i++) {
            x.person(0, 0, 1);
            x.starts(i + 1);
        }
        return x.told(0, what);
    }

    private void paceOfAWalker() {
        doc.term(4, "PACE (so many PLACES in an HOUR, paces telling v): WALKER: v;");
        for (int v = 0; v <= 9; v++) {
            doc.due("walker by " + v, ruled(9, "" + v, 0, 7, 99, 1), v);
        }
    }

    private void paceOfAClerk() {
        doc.term(4, "CLERK: half (cut) of a WALKER's, if DOUBT is above 20, else as a WALKER;");
        int[][] clerk = {{5, 20, 5}, {5, 21, 2}, {5, 0, 5}, {5, 99, 2}, {1, 21, 0}, {0, 21, 0}, {9, 21, 4}, {10, 20, 9},
            {10, 21, 5}, {19, 21, 9}, {20, 21, 9}};
        for (int[] c : clerk) {
            doc.due("clerk by " + c[0] + ", doubt " + c[1], ruled(9, "" + c[0], 1, 7, c[1], 1), c[2]);
        }
    }

    private void paceOfAnOldOne() {
        doc.term(4, "OLD: 1 less than a WALKER;");
        int[][] old = {{0, 0}, {1, 0}, {2, 1}, {9, 8}, {10, 9}, {11, 9}, {99, 9}};
        for (int[] o : old) {
            doc.due("old by " + o[0], ruled(9, "" + o[0], 2, 7, 99, 1), o[1]);
        }
    }

    private void paceOfAChild() {
        doc.term(4, "CHILD: NUMBER modulo 3 more than a CLERK;");
        for (int number = 0; number <= 9; number++) {
            doc.due("child of " + number, ruled(9, "5", 3, number, 20, 1), 5 + number % 3);
            doc.due("child of " + number + " in doubt", ruled(9, "5", 3, number, 21, 1), 2 + number % 3);
        }
        doc.due("child of 2 by 8", ruled(9, "8", 3, 2, 20, 1), 9);
    }

    private void paceOfOneOfLetters() {
        doc.term(4, "LETTERS: as an OLD, and 1, if it meets anybody (met, as told below, is above 0);");
        doc.due("meeting nobody", ruledMeeting(9, "5", 9, 0), 4);
        doc.due("meeting one", ruledMeeting(9, "5", 9, 1), 5);
        doc.due("meeting four", ruledMeeting(9, "5", 9, 4), 5);
        doc.due("by 0", ruledMeeting(9, "0", 9, 0), 0);
    }

    private void paceOfAYoungOneAndItsBound() {
        doc.term(4, "YOUNG: twice a WALKER's. (0 .. 9, else the bound: laid once, on what comes out.)");
        int[][] young = {{0, 0}, {1, 2}, {4, 8}, {5, 9}, {99, 9}};
        for (int[] y : young) {
            doc.due("young by " + y[0], ruled(9, "" + y[0], 5, 7, 99, 1), y[1]);
        }
        doc.due("once: half of 12, not of 9", ruled(9, "12", 1, 0, 21, 0), 6);
        doc.due("once: 1 less than 10, not than 9", ruled(9, "10", 2, 0, 0, 0), 9);
        doc.due("once: 0 less 1 and 1", ruledMeeting(9, "0", 0, 1), 0);
        doc.due("once: 11 less 1 and 1", ruledMeeting(9, "11", 0, 1), 9);
    }

    private void pacesBound() {
        doc.term(4, "paces (0 .. 99, else the bound)");
        doc.due("below 0, then 2 more", ruled(9, "-1", 3, 2, 0, 0), 2);
        doc.due("far below 0, then 2 more", ruled(9, "-9999", 3, 2, 0, 0), 2);
        doc.due("the least int less 1", ruled(9, LEAST, 2, 0, 0, 0), 0);
        doc.due("twice what half an int holds", ruled(9, HUGE, 5, 0, 0, 0), 9);
        doc.due("100", ruled(9, "100", 0, 0, 0, 0), 9);
    }

    private void treadsOfAWalker() {
        doc.term(4, "TREADS (so much firmer each PLACE one comes to, treads telling v): WALKER: v;");
        for (int v : new int[] {0, 1, 98, 99}) {
            doc.due("walker by " + v, ruled(10, "" + v, 0, 7, 99, 1), v);
        }
    }

    private void treadsOfAClerk() {
        doc.term(4, "CLERK: as a WALKER;");
        doc.due("clerk by 99", ruled(10, "99", 1, 7, 99, 1), 99);
        doc.due("clerk by 0", ruled(10, "0", 1, 7, 99, 1), 0);
    }

    private void treadsOfAnOldOne() {
        doc.term(4, "OLD: twice a WALKER's;");
        int[][] old = {{0, 0}, {49, 98}, {50, 99}, {99, 99}, {-1, 0}};
        for (int[] o : old) {
            doc.due("old by " + o[0], ruled(10, "" + o[0], 2, 7, 99, 1), o[1]);
        }
    }

    private void treadsOfAChild() {
        doc.term(4, "CHILD: half (cut) of a CLERK's;");
        int[][] child = {{0, 0}, {1, 0}, {5, 2}, {99, 49}, {-1, 0}, {-9, 0}};
        for (int[] c : child) {
            doc.due("child by " + c[0], ruled(10, "" + c[0], 3, 7, 99, 1), c[1]);
        }
    }

    private void treadsOfOneOfLetters() {
        doc.term(4, "LETTERS: NUMBER more than an OLD;");
        int[][] letters = {{0, 0, 0}, {0, 9, 9}, {45, 9, 99}, {45, 8, 98}, {46, 9, 99}, {-4, 9, 1}, {-5, 9, 0}};
        for (int[] l : letters) {
            doc.due("letters of " + l[1] + " by " + l[0], ruled(10, "" + l[0], 4, l[1], 99, 1), l[2]);
        }
    }

    private void treadsOfAYoungOne() {
        doc.term(4, "YOUNG: 0.");
        doc.due("young by 99", ruled(10, "99", 5, 9, 99, 1), 0);
        doc.due("young by 0", ruled(10, "0", 5, 9, 99, 1), 0);
    }

    private void treadsAreBoundOnce() {
        doc.term(4, "(TREADS 0 .. 99, else the bound: laid once, on what comes out.)");
        doc.due("-1", ruled(10, "-1", 0, 0, 0, 0), 0);
        doc.due("-99", ruled(10, "-99", 1, 0, 0, 0), 0);
        doc.due("once: 9 more than -2", ruled(10, "-1", 4, 9, 0, 0), 7);
        doc.due("doubts are not bound so", ruled(11, "99", 5, 0, 0, 0), 1198);
    }

    private void doubtsOfAWalker() {
        doc.term(4, "DOUBTS (so much more DOUBT in an HOUR, doubts telling v): WALKER: v;");
        doc.due("walker by 7", ruled(11, "7", 0, 7, 99, 1), 1007);
        doc.due("walker by -7", ruled(11, "-7", 0, 7, 99, 1), 993);
    }

    private void doubtsOfAClerk() {
        doc.term(4, "CLERK: NUMBER more than a WALKER;");
        doc.due("clerk of 0", ruled(11, "7", 1, 0, 99, 0), 1007);
        doc.due("clerk of 9", ruled(11, "7", 1, 9, 99, 0), 1016);
        doc.due("clerk of 9 by 99", ruled(11, "99", 1, 9, 99, 0), 1108);
    }

    private void doubtsOfAnOldOne() {
        doc.term(4, "OLD: 0 less a WALKER's;");
        doc.due("old by 7", ruled(11, "7", 2, 9, 99, 1), 993);
        doc.due("old by 0", ruled(11, "0", 2, 9, 99, 1), 1000);
        doc.due("old by -99", ruled(11, "-99", 2, 9, 99, 1), 1099);
    }

    private void doubtsOfAChild() {
        doc.term(4, "CHILD: as a CLERK, in odd HOURS, else 0;");
        int[][] child = {{0, 1000}, {1, 1016}, {2, 1000}, {998, 1000}, {999, 1016}};
        for (int[] c : child) {
            doc.due("child in hour " + c[0], ruled(11, "7", 3, 9, 99, c[0]), c[1]);
        }
    }

    private void doubtsOfOneOfLetters() {
        doc.term(4, "LETTERS: as an OLD, and 10 less, if it meets anybody;");
        doc.due("meeting nobody", ruledMeeting(11, "7", 9, 0), 993);
        doc.due("meeting one", ruledMeeting(11, "7", 9, 1), 983);
        doc.due("meeting four", ruledMeeting(11, "7", 9, 4), 983);
    }

    private void doubtsOfAYoungOne() {
        doc.term(4, "and 10 less, if it meets anybody; YOUNG: twice a WALKER's.");
        doc.due("young by 7", ruled(11, "7", 5, 9, 99, 1), 1014);
        doc.due("young by 0", ruled(11, "0", 5, 9, 99, 1), 1000);
    }

    private void treadsAndDoubtsBound() {
        doc.term(4, "treads, doubts (-99 .. 99, else the bound).");
        doc.due("doubts 100", ruled(11, "100", 0, 0, 0, 0), 1099);
        doc.due("doubts -100", ruled(11, "-100", 0, 0, 0, 0), 901);
        doc.due("doubts -100, twice", ruled(11, "-100", 5, 0, 0, 0), 802);
        doc.due("doubts of the least int, 0 less that", ruled(11, LEAST, 2, 0, 0, 0), 1099);
        doc.due("treads 100, half of it", ruled(10, "100", 3, 0, 0, 0), 49);
        doc.due("treads far below 0, twice", ruled(10, "-" + HUGE, 2, 0, 0, 0), 0);
        doc.due("treads far above, twice", ruled(10, HUGE, 2, 0, 0, 0), 99);
    }
}
