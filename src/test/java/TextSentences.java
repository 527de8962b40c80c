/** The sentences of promises 5 to 7: feed, text, force, and how a text is read and told. */
final class TextSentences {
    private static final int[] FAR = {Integer.MIN_VALUE, -1000, -2, -1, 256, 257, 1000, Integer.MAX_VALUE};
    private static final String SOUND = "paces 3 ; treads 5 ; doubts 2 ;";
    private static final String REST = ";treads 0;doubts 0;";
    private static final int SOUNDS = -1;

    private final Sentences doc;

    TextSentences(Sentences doc) {
        this.doc = doc;
    }

    void tell() {
        bytesThatCome();
        howManyTheTapeHas();
        feedIsBad();
        feedIsFull();
        tapeIsAHundredAndSixty();

        textEmptiesTheTape();
        faultEmptiesTheTape();
        textIsNumbered();
        faultIsLessAHundred();
        textIsFull();
        tapeStaysWhenFull();
        sixTextsAtMost();
        tokens();
        threeParts();
        ors();
        ands();
        nots();
        sums();
        terms();
        ones();
        namesThatAre();
        keysThatAre();
        ints();
        faultOfATokenThatCantStand();
        faultOfWhatIsNoToken();
        faultOfTooManyOpen();

        forceTellsWhichWas();
        forceIsBad();
        nameDoubt();
        nameFirm();
        nameNumber();
        nameHour();
        nameSea();
        nameMet();
        firstRule();
    }

    private void fault(String tape, int place) {
        CausewayKept x = new CausewayKept();
        doc.due("'" + tape.replace('\n', '~') + "'", Check.read(x, tape), place == SOUNDS ? 1 : -100 - place);
    }

    /** What stands ahead of this E's fault, of a text that is sound but for it. */
    private void faultOfE(String e, int place) {
        fault("paces " + e + REST, place == SOUNDS ? SOUNDS : 6 + place);
        fault("paces 1;treads " + e + ";doubts 0;", place == SOUNDS ? SOUNDS : 15 + place);
        fault("paces 1;treads 1;doubts " + e + ";", place == SOUNDS ? SOUNDS : 24 + place);
    }

    /** What an E is, between -99 and 99. */
    private static int value(String e) {
        CausewayKept x = Check.ruled("paces 0;treads 0;doubts " + e + ";");
        x.person(0, 7, 1);
        return x.told(0, 11) - 1000;
    }

    private void values(Object... esAndValues) {
        for (int i = 0; i < esAndValues.length; i += 2) {
            String e = (String) esAndValues[i];
            doc.due("'" + e + "'", value(e), (Integer) esAndValues[i + 1]);
        }
    }

    // ---- promise 5

    private void bytesThatCome() {
        doc.of(5, "A byte (0 .. 255)");
        CausewayKept x = new CausewayKept();
        doc.due("feed(0)", x.feed(0), 1);
        doc.due("feed(255)", x.feed(255), 2);
        doc.due("feed(-1)", x.feed(-1), -2);
        doc.due("feed(256)", x.feed(256), -2);
        doc.due("feed(128)", x.feed(128), 3);
        doc.due("a byte is not its lowest seven bits: 'p' and 128", Check.read(new CausewayKept(), (char) 240 + SOUND.substring(1)), -100);
    }

    private void howManyTheTapeHas() {
        doc.of(5, "comes behind THE TAPE: how many it has.");
        CausewayKept x = new CausewayKept();
        for (int i = 1; i <= 160; i++) {
            doc.due("feed " + i, x.feed(i <= 31 ? SOUND.charAt(i - 1) : ' '), i);
        }
        doc.due("what came first stands first", x.text(), 1);
        doc.due("feed behind a text", x.feed(' '), 1);
        doc.due("count(4)", x.count(4), 1);
    }

    private void feedIsBad() {
        doc.of(5, "BAD;");
        CausewayKept x = new CausewayKept();
        Check.feed(x, SOUND.substring(0, 30));
        for (int letter : FAR) {
            doc.due("feed(" + letter + ")", x.feed(letter), -2);
        }
        doc.due("count(4)", x.count(4), 30);
        doc.due("the last byte", x.feed(';'), 31);
        doc.due("nothing came between", x.text(), 1);
    }

    private void feedIsFull() {
        doc.of(5, "FULL.");
        CausewayKept x = new CausewayKept();
        Check.feed(x, SOUND + " ".repeat(128));
        doc.due("the 160th", x.feed(' '), 160);
        doc.due("a 161st", x.feed('?'), -4);
        doc.due("a 162nd", x.feed('?'), -4);
        doc.due("a 161st that is no byte", x.feed(256), -2);
        doc.due("count(4)", x.count(4), 160);
        doc.due("it changed nothing", x.text(), 1);
        doc.due("room again", x.feed('?'), 1);
    }

    private void tapeIsAHundredAndSixty() {
        doc.term(5, "A TEXT is read from THE TAPE (160 bytes at most).");
        String text = "paces 1;treads 2;doubts " + "1+".repeat(67) + "9;";
        doc.due("bytes", text.length(), 160);
        CausewayKept x = Check.ruled(text);
        x.person(0, 0, 1);
        doc.due("all of them are read", x.told(0, 11), 1000 + 67 + 9);
        CausewayKept y = new CausewayKept();
        Check.feed(y, text.substring(0, 158) + "19;");
        doc.due("the 161st is not of it", y.count(4), 160);
        doc.due("so it ends too early", y.text(), -260);
    }

    // ---- promise 6

    private void textEmptiesTheTape() {
        doc.of(6, "THE TAPE, which is empty then");
        CausewayKept x = new CausewayKept();
        doc.due("a text", Check.read(x, SOUND), 1);
        doc.due("count(4)", x.count(4), 0);
        doc.due("an empty tape", x.text(), -100);
        doc.due("another text", Check.read(x, SOUND), 2);
        doc.due("a number", Check.read(x, "paces 12345"), -106);
        doc.due("what stood behind it is gone", Check.read(x, "paces 1234"), -110);
        doc.due("a name", Check.read(x, "paces number"), -112);
        doc.due("what stood behind it is gone, too", Check.read(x, "paces numbe"), -106);
        doc.due("blanks", Check.read(x, "paces  "), -107);
        doc.due("they are gone, too", Check.read(x, "paces "), -106);
        doc.due("feed", x.feed(' '), 1);
    }

    private void faultEmptiesTheTape() {
        doc.of(6, "(by a FAULT, too)");
        CausewayKept x = new CausewayKept();
        doc.due("a fault", Check.read(x, "paces ?" + SOUND), -106);
        doc.due("count(4)", x.count(4), 0);
        doc.due("an empty tape", x.text(), -100);
        doc.due("no text came", x.count(3), 1);
        doc.due("a text behind it", Check.read(x, SOUND), 1);
    }

    private void textIsNumbered() {
        doc.of(6, "is a TEXT: its number;");
        CausewayKept x = new CausewayKept();
        for (int i = 1; i <= 5; i++) {
            doc.due("text " + i, Check.read(x, "paces " + i + ";treads 0;doubts 0;"), i);
            doc.due("a fault between", Check.read(x, "?"), i < 5 ? -100 : -4);
        }
        x.person(0, 0, 1);
        for (int i = 1; i <= 5; i++) {
            x.force(i);
            doc.due("pace by text " + i, x.told(0, 9), i);
        }
    }

    private void faultIsLessAHundred() {
        doc.of(6, "-100 less the place of its FAULT.");
        fault("?", 0);
        fault(" ?", 1);
        fault("paces 1?", 7);
        fault(" ".repeat(159) + "?", 159);
        fault(" ".repeat(160), 160);
        fault("", 0);
    }

    private void textIsFull() {
        doc.of(6, "FULL (ahead of all): no TEXT more has room");
        for (String tape : new String[] {"", SOUND, "?", "paces"}) {
            CausewayKept x = new CausewayKept();
            for (int i = 1; i <= 5; i++) {
                doc.due("text " + i, Check.read(x, SOUND), i);
            }
            doc.due("text of '" + tape + "'", Check.read(x, tape), -4);
            doc.due("count(3)", x.count(3), 6);
        }
    }

    private void tapeStaysWhenFull() {
        doc.of(6, "(THE TAPE stays)");
        CausewayKept x = new CausewayKept();
        for (int i = 1; i <= 5; i++) {
            Check.read(x, SOUND);
        }
        Check.feed(x, SOUND);
        doc.due("text()", x.text(), -4);
        doc.due("count(4)", x.count(4), 31);
        doc.due("text() again", x.text(), -4);
        doc.due("feed", x.feed(' '), 32);
    }

    private void sixTextsAtMost() {
        doc.term(6, "There are 6 TEXTS at most, TEXT 0 with them.");
        CausewayKept x = new CausewayKept();
        doc.due("count(3)", x.count(3), 1);
        for (int i = 1; i <= 5; i++) {
            doc.due("text " + i, Check.read(x, SOUND), i);
            doc.due("count(3)", x.count(3), i + 1);
        }
        doc.due("a seventh", Check.read(x, SOUND), -4);
        doc.due("force(5)", x.force(5), 0);
        doc.due("force(6)", x.force(6), -2);
        doc.due("force(0)", x.force(0), 5);
    }

    private void tokens() {
        doc.term(6, "TOKENS, each as long as can be: WORDS (a .. z), NUMBERS (as many digits as stand there, 4 at most),"
            + " SIGNS ( ) ; + - * < = ; blanks (32, 10) may stand between.");
        fault("paces3;treads5;doubts2;", SOUNDS);
        fault("\n paces\n3 ;\n\n treads  5\n;doubts 2 ;\n ", SOUNDS);
        faultOfE("9999", SOUNDS);
        faultOfE("0000", SOUNDS);
        faultOfE("10000", 0);
        faultOfE("00001", 0);
        faultOfE("1 00001", 2);
        faultOfE("12 34", 3);
        faultOfE("1+123456789012345678901234567890", 2);
        faultOfE("(1)+1-1*1<1", SOUNDS);
        faultOfE("1=1", SOUNDS);
        faultOfE("1or not1and-1", SOUNDS);
        faultOfE("seamet", 0);
        faultOfE("seaz", 0);
        faultOfE("zsea", 0);
        faultOfE("asea", 0);
        faultOfE("sea met", 4);
        faultOfE("notnot 1", 0);
        faultOfE("1 andnot 1", 2);
        faultOfE("se a", 0);
        faultOfE("1 < = 1", 4);
        faultOfE("1 2", 2);
        fault("paces 3;treads 5;doubts2;", SOUNDS);
        fault("pacestreads 3;", 0);
        CausewayKept x = Check.ruled("paces 0;treads 0;doubts 0 or 0099 and 1;");
        doc.due("0099 stands", x.count(3), 2);
        values("0099", 99, "0010", 10, "10", 10, "01", 1);
    }

    private void threeParts() {
        doc.term(6, "TEXT: paces E ; treads E ; doubts E ;");
        fault("paces 1;treads 2;doubts 3;", SOUNDS);
        fault("paces 1;treads 2;doubts 3", 25);
        fault("paces 1;treads 2;", 17);
        fault("paces 1;", 8);
        fault("paces 1", 7);
        fault("paces", 5);
        fault("treads 2;paces 1;doubts 3;", 0);
        fault("paces 1;doubts 3;treads 2;", 8);
        fault("paces 1;treads 2;treads 2;", 17);
        fault("paces 1;treads 2;doubts 3;;", 26);
        fault("paces 1;treads 2;doubts 3;paces 1;", 26);
        fault("paces ;treads 2;doubts 3;", 6);
        fault("paces 1;;", 8);
        fault("paces 1 treads 2;", 8);
        CausewayKept x = Check.ruled("paces 1;treads 2;doubts 3;");
        x.person(0, 0, 1);
        doc.due("paces", x.told(0, 9), 1);
        doc.due("treads", x.told(0, 10), 2);
        doc.due("doubts", x.told(0, 11), 1003);
    }

    private void ors() {
        doc.term(6, "E: AND { or AND }.");
        faultOfE("1 or 0 or 1", SOUNDS);
        faultOfE("1 or", 4);
        faultOfE("or 1", 0);
        faultOfE("1 or or 1", 5);
        values("0 or 0", 0, "0 or 5", 1, "5 or 0", 1, "-1 or 0", 1, "0 or 0 or 7", 1, "1 or 0 and 0", 1, "0 and 0 or 1", 1,
            "7", 7);
    }

    private void ands() {
        doc.term(6, "AND: NOT { and NOT }.");
        faultOfE("1 and 0 and 1", SOUNDS);
        faultOfE("1 and", 5);
        faultOfE("and 1", 0);
        faultOfE("1 and and 1", 6);
        values("5 and 7", 1, "5 and 0", 0, "0 and 5", 0, "0 and 0", 0, "2 and 4", 1, "1 and 1 and 0", 0,
            "not 0 and not 0", 1, "not 1 and 0", 0);
    }

    private void nots() {
        doc.term(6, "NOT: not NOT, or SUM, perhaps < or = and a SUM.");
        faultOfE("not not 1", SOUNDS);
        faultOfE("not", 3);
        faultOfE("1 < 2 < 3", 6);
        faultOfE("1 = 2 = 3", 6);
        faultOfE("1 < 2 = 3", 6);
        faultOfE("1 = 2 < 3", 6);
        faultOfE("1 < not 2", 4);
        faultOfE("1 <", 3);
        faultOfE("= 1", 0);
        values("not 0", 1, "not 5", 0, "not -1", 0, "not not 5", 1, "not 3 < 2", 1, "not 2 = 3", 1, "1 < 2", 1, "2 < 2", 0,
            "3 < 2", 0, "2 = 2", 1, "2 = 3", 0, "1 + 1 = 2", 1, "2 < 1 + 2", 1, "not 1 + 1", 0);
    }

    private void sums() {
        doc.term(6, "SUM: TERM { + or - TERM }.");
        faultOfE("1 + 2 - 3", SOUNDS);
        faultOfE("1 +", 3);
        faultOfE("+ 1", 0);
        faultOfE("1 + + 2", 4);
        faultOfE("1 + not 2", 4);
        faultOfE("1 - - 2", SOUNDS);
        values("1 + 2", 3, "1 - 2", -1, "10 - 3 - 2", 5, "10 - 3 + 2", 9, "2 + 3 * 4", 14, "20 - 2 * 3", 14, "1 - - 2", 3);
    }

    private void terms() {
        doc.term(6, "TERM: ONE { * ONE }.");
        faultOfE("2 * 3 * 4", SOUNDS);
        faultOfE("2 *", 3);
        faultOfE("* 2", 0);
        faultOfE("2 * * 3", 4);
        faultOfE("2 * not 3", 4);
        values("2 * 3", 6, "2 * 3 * 4", 24, "2 * -3", -6, "-2 * 3", -6, "-2 * -3", 6, "0 * 99", 0);
    }

    private void ones() {
        doc.term(6, "ONE: a NUMBER, a NAME, - ONE, ( E ).");
        faultOfE("sea", SOUNDS);
        faultOfE("--1", SOUNDS);
        faultOfE("-", 1);
        faultOfE("()", 1);
        faultOfE("(1", 2);
        faultOfE("1)", 1);
        faultOfE("(1 2)", 3);
        faultOfE("((1)", 4);
        faultOfE("-not 1", 1);
        faultOfE("(not 1)", SOUNDS);
        values("7", 7, "number", 7, "-7", -7, "--7", 7, "---7", -7, "(7)", 7, "-(7)", -7, "2 * (3 + 4)", 14,
            "(1 or 0) + (1 < 2)", 2, "-number * 2", -14, "(not 0) + 1", 2);
    }

    private void namesThatAre() {
        doc.term(6, "NAMES are doubt firm number hour sea met;");
        for (String name : new String[] {"doubt", "firm", "number", "hour", "sea", "met"}) {
            faultOfE(name, SOUNDS);
            faultOfE(name + "s", 0);
            faultOfE(name.substring(1), 0);
            faultOfE(name.substring(0, name.length() - 1), 0);
            faultOfE("1 " + name, 2);
            fault(name + " 1", 0);
            for (int i = 0; i < name.length(); i++) {
                faultOfE(name.substring(0, i) + "q" + name.substring(i + 1), 0);
            }
        }
        faultOfE("Sea", 0);
        faultOfE("sEa", 0);
    }

    private void keysThatAre() {
        doc.term(6, "paces, treads, doubts, or, and, not are KEYS.");
        for (String key : new String[] {"paces", "treads", "doubts", "or", "and"}) {
            faultOfE(key, 0);
            faultOfE(key + " 1", 0);
            faultOfE("1 + " + key, 4);
            faultOfE("-" + key, 1);
        }
        faultOfE("1 not 1", 2);
        faultOfE("1 + not 1", 4);
        faultOfE("1 paces 1", 2);
        faultOfE("1 ors 1", 2);
        faultOfE("1 an 1", 2);
        faultOfE("no 1", 0);
        for (int i = 0; i < SOUND.length(); i++) {
            boolean key = SOUND.charAt(i) >= 'a' && SOUND.charAt(i) <= 'z';
            fault(SOUND.substring(0, i) + (key ? 'q' : SOUND.charAt(i)) + SOUND.substring(i + 1),
                !key ? SOUNDS : i < 5 ? 0 : i < 16 ? 10 : 21);
        }
        for (String other : new String[] {"1 qr 1", "1 oq 1", "1 qnd 1", "1 aqd 1", "1 anq 1"}) {
            faultOfE(other, 2);
        }
        for (String other : new String[] {"qot 1", "nqt 1", "noq 1"}) {
            faultOfE(other, 0);
        }
        fault("pace 1;", 0);
        fault("pacess 1;", 0);
        fault("not 1;", 0);
    }

    private void ints() {
        doc.term(6, "An E is an int (32 bits, wrapping): of or, and, not, <, = 1 or 0 (what is not 0 is true).");
        // 9999 * 9999 is 99980001; times 21, and 47903627 more, is 2 to the 31st
        String least = "(9999*9999*21+9999*4790+8417)";
        values(least + " < 0", 1, "0 < " + least + " - 1", 1, "-" + least + " = " + least, 1, least + " + " + least, 0,
            least + " * 2", 0, least + " = 0 - " + least, 1,
            // 99980001 times 43 is 4299140043, which is 4172747 over 2 to the 32nd
            "9999*9999*43 = 4172*1000+747", 1, "9999*9999*9999*9999 = 1089*1000*1000+432*1000+1", 1,
            least + " or 0", 1, least + " and -1", 1, "not " + least, 0, "not not " + least, 1,
            "(2 or 0) + (2 and 2) + (not 0) + (1 < 2) + (1 = 1)", 5,
            "(0 or 0) + (2 and 0) + (not 2) + (2 < 1) + (1 = 2)", 0);
    }

    private void faultOfATokenThatCantStand() {
        doc.term(6, "FAULT: the place of the first byte of the first TOKEN that can't stand there (the text's size, if it ends"
            + " too early)");
        fault(SOUND, SOUNDS);
        for (int size = 0; size <= 30; size++) {
            // a key that is cut short is itself what can't stand there
            int word = size > 0 && size < 5 ? 0 : size > 10 && size < 16 ? 10 : size > 21 && size < 27 ? 21 : size;
            fault(SOUND.substring(0, size), word);
        }
        fault("", 0);
        fault(" \n ", 3);
        fault(SOUND + "  paces", 33);
        fault(SOUND + "  ", SOUNDS);
        fault("3", 0);
        fault("paces 1 + 2 doubts ?", 12);
        fault("  ;", 2);
        fault(" ".repeat(154) + "paces ", 160);
        fault(" ".repeat(153) + "paces 1", 160);
        fault(" ".repeat(151) + "paces sea", 160);
        fault(" ".repeat(155) + "paces", 160);
        fault(" ".repeat(152) + "paces 1;", 160);
        fault(" ".repeat(152) + "paces 1)", 159);
    }

    private void faultOfWhatIsNoToken() {
        doc.term(6, "also of a byte that begins none, a WORD that is neither KEY nor NAME, a NUMBER that is too long,");
        for (int b = 0; b <= 255; b++) {
            boolean blank = b == 32 || b == 10;
            boolean digit = b >= '0' && b <= '9';
            boolean sign = b == ';' || b == '+' || b == '-' || b == '*' || b == '<' || b == '=';
            fault("paces 3" + (char) b + REST, blank || digit ? SOUNDS : sign ? 8 : 7);
        }
        for (String word : new String[] {"a", "z", "x", "pace", "doubty", "nor", "metmet"}) {
            faultOfE(word, 0);
            faultOfE("1 + " + word + " ?", 4);
            faultOfE("1 " + word, 2);
        }
        faultOfE("99999", 0);
        faultOfE("1 + 99999 ?", 4);
        faultOfE("1 99999", 2);
        fault("paces " + "9".repeat(154), 6);
        fault(" ".repeat(149) + "paces 12345", 155);
        fault(" ".repeat(150) + "paces 1234", 160);
    }

    private void faultOfTooManyOpen() {
        doc.term(6, "a ( , a not, a - ahead of a ONE while 5 of these are open (a ( till its ) , not and - till what they"
            + " belong to ends).");
        faultOfE("(((((1)))))", SOUNDS);
        faultOfE("((((((1))))))", 5);
        faultOfE("not not not not not 1", SOUNDS);
        faultOfE("not not not not not not 1", 20);
        faultOfE("-----1", SOUNDS);
        faultOfE("------1", 5);
        faultOfE("not ((-(1)))", SOUNDS);
        faultOfE("not ((-(-1)))", 8);
        faultOfE("not ((-((1))))", 8);
        faultOfE("(((((not 1)))))", 5);
        faultOfE("(((((-1)))))", 5);
        faultOfE("-((((not 1))))", 5);
        // a - between two TERMS opens nothing
        faultOfE("(((((1 - 2)))))", SOUNDS);
        faultOfE("-----1 - 1", SOUNDS);
        faultOfE("(((((1 - -2)))))", 9);
        // each ends where what it belongs to ends
        faultOfE("-1*-1*-1*-1*-1*-1", SOUNDS);
        faultOfE("(1)+(1)+(1)+(1)+(1)+(1)", SOUNDS);
        faultOfE("-----1 * -----1", SOUNDS);
        faultOfE("(((((1))))) + (((((1)))))", SOUNDS);
        faultOfE("(((((1))))) + ((((((1))))))", 19);
        faultOfE("not 1 and not 1 and not 1 and not 1 and not 1 and not 1", SOUNDS);
        faultOfE("not not not not not 1 or not not not not not 1", SOUNDS);
        faultOfE("not 1 and (((((1)))))", SOUNDS);
        faultOfE("not 1 < (((((1)))))", 12);
        faultOfE("not 1 + (((((1)))))", 12);
        faultOfE("-1 + (((((1)))))", SOUNDS);
        faultOfE("-1 < (((((1)))))", SOUNDS);
        faultOfE("-(1 + ((((1)))))", 9);
        fault("paces -----1;treads (((((1)))));doubts not not not not not 1;", SOUNDS);
    }

    // ---- promise 7

    private void forceTellsWhichWas() {
        doc.of(7, "A TEXT is THE RULE: which was.");
        CausewayKept x = new CausewayKept();
        doc.due("force(0) at first", x.force(0), 0);
        for (int i = 1; i <= 5; i++) {
            Check.read(x, "paces " + i + ";treads 0;doubts 0;");
        }
        doc.due("a text that is read is not the rule", x.count(5), 0);
        doc.due("force(5)", x.force(5), 0);
        doc.due("force(5) again", x.force(5), 5);
        doc.due("count(5)", x.count(5), 5);
        doc.due("force(1)", x.force(1), 5);
        x.person(0, 0, 1);
        doc.due("its pace", x.told(0, 9), 1);
        doc.due("force(0)", x.force(0), 1);
        doc.due("pace of text 0", x.told(0, 9), 3);
    }

    private void forceIsBad() {
        doc.of(7, "BAD.");
        CausewayKept x = new CausewayKept();
        for (int text : FAR) {
            doc.due("force(" + text + ")", x.force(text), -2);
        }
        doc.due("force(1) of one", x.force(1), -2);
        Check.read(x, SOUND);
        doc.due("force(2) of two", x.force(2), -2);
        doc.due("force(1) of two", x.force(1), 0);
        doc.due("force(2) then", x.force(2), -2);
        doc.due("force(-1) then", x.force(-1), -2);
        doc.due("count(5)", x.count(5), 1);
        Check.read(x, "?");
        doc.due("a fault is no text", x.force(2), -2);
    }

    /** One of number 7 whom a rule asks for this name; the hour, the sea and so on are what they are set to. */
    private void nameIs(String name, int what, int of, int[] values) {
        CausewayKept x = Check.ruled("paces 0;treads 0;doubts " + name + ";");
        x.person(0, 7, 1);
        x.set(5, 0, 31);
        for (int v : values) {
            x.set(what, of, v);
            doc.due(name + " of " + v, x.told(0, 11), 1000 + Math.min(v, 99));
        }
    }

    private void nameDoubt() {
        doc.term(7, "Of one of PEOPLE: doubt: DOUBT;");
        nameIs("doubt", 4, 0, new int[] {0, 1, 99});
    }

    private void nameFirm() {
        doc.term(7, "firm: FIRM of the PLACE one is AT;");
        nameIs("firm", 2, 31, new int[] {0, 1, 99});
        CausewayKept x = Check.ruled("paces 0;treads 0;doubts firm;");
        x.person(0, 7, 1);
        x.set(2, 0, 11);
        x.set(2, 31, 22);
        for (int how = 0; how <= 3; how++) {
            x.set(6, 0, how);
            x.set(5, 0, 0);
            doc.due("at 0, HOW " + how, x.told(0, 11), 1011);
            x.set(5, 0, 31);
            doc.due("at 31, HOW " + how, x.told(0, 11), 1022);
        }
    }

    private void nameNumber() {
        doc.term(7, "number: NUMBER;");
        nameIs("number", 3, 0, new int[] {0, 1, 9});
    }

    private void nameHour() {
        doc.term(7, "hour: HOUR;");
        nameIs("hour", 0, 0, new int[] {0, 1, 99});
        CausewayKept x = Check.ruled("paces 0;treads 0;doubts hour - 950;");
        x.person(0, 7, 1);
        x.set(0, 0, 999);
        doc.due("hour 999", x.told(0, 11), 1049);
    }

    private void nameSea() {
        doc.term(7, "sea: SEA;");
        nameIs("sea", 1, 0, new int[] {0, 1, 99});
    }

    private void nameMet() {
        doc.term(7, "met: how many others ON it, or SUNK, are AT that PLACE (of one at HOME, OVER 0).");
        CausewayKept x = Check.ruled("paces 0;treads 0;doubts met;");
        for (int i = 0; i < 5; i++) {
            x.person(0, 0, 1);
        }
        x.starts(0);
        doc.due("alone on it", x.told(0, 11), 1000);
        for (int i = 1; i < 5; i++) {
            x.starts(i);
            doc.due("others on it: " + i, x.told(0, 11), 1000 + i);
        }
        int[] met = {0, 4, 4, 0};
        for (int how = 0; how <= 3; how++) {
            x.set(6, 0, how);
            doc.due("of one of HOW " + how, x.told(0, 11), 1000 + met[how]);
        }
        x.set(6, 0, 1);
        int[] counts = {3, 4, 4, 3};
        for (int how = 0; how <= 3; how++) {
            x.set(6, 4, how);
            doc.due("another of HOW " + how, x.told(0, 11), 1000 + counts[how]);
        }
        x.set(6, 4, 2);
        x.set(5, 4, 1);
        doc.due("another one place on", x.told(0, 11), 1003);
        doc.due("that one meets nobody", x.told(4, 11), 1000);
    }

    private void firstRule() {
        doc.term(7, "TEXT 0, at first THE RULE, is: paces 3 ; treads 5 ; doubts 2 ;");
        CausewayKept x = new CausewayKept();
        x.person(0, 0, 1);
        doc.due("count(5)", x.count(5), 0);
        doc.due("paces", x.told(0, 9), 3);
        doc.due("treads", x.told(0, 10), 5);
        doc.due("doubts", x.told(0, 11), 1002);
        doc.due("it can be read as it stands", Check.read(x, SOUND), 1);
    }
}
