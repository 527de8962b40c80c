/** Promises 5 to 7: feed, text, force, and how texts are read and told. */
public final class TextTest {
    private static final Check CHECK = new Check("TextTest");

    public static void main(String[] args) {
        feeds();
        textsAreNumbered();
        faults();
        behindTheEnd();
        depth();
        values();
        names();
        forces();
        CHECK.end();
    }

    private static void due(String call, long got, long want) {
        CHECK.due(call, got, want);
    }

    private static void feeds() {
        CausewayKept x = new CausewayKept();
        due("feed(-1)", x.feed(-1), -2);
        due("feed(256)", x.feed(256), -2);
        due("feed(0)", x.feed(0), 1);
        due("feed(255)", x.feed(255), 2);
        for (int i = 3; i <= 160; i++) {
            due("feed " + i, x.feed(32), i);
        }
        due("feed on a full tape", x.feed(32), -4);
        due("BAD goes ahead of FULL", x.feed(256), -2);
        due("the tape has 160", x.count(4), 160);
        due("its first byte begins no token", x.text(), -100);
        due("a fault empties the tape", x.count(4), 0);
        due("feed anew", x.feed(112), 1);
    }

    private static void textsAreNumbered() {
        CausewayKept x = new CausewayKept();
        for (int i = 1; i <= 5; i++) {
            due("text " + i, Check.read(x, "paces 1;treads 2;doubts 3;"), i);
            due("the tape is empty", x.count(4), 0);
        }
        due("six texts", x.count(3), 6);
        due("no room", Check.read(x, "paces 1;"), -4);
        due("the tape stays", x.count(4), 8);
        due("FULL goes ahead of an empty tape", new CausewayKept().text(), -100);
        due("still six", x.count(3), 6);
    }

    private static void fault(String tape, int place) {
        CausewayKept x = new CausewayKept();
        due("fault of '" + tape.replace('\n', '~') + "'", Check.read(x, tape), place < 0 ? 1 : -100 - place);
        due("texts then", x.count(3), place < 0 ? 2 : 1);
        due("tape then", x.count(4), 0);
    }

    private static void faults() {
        String sound = "paces 3 ; treads 5 ; doubts 2 ;";
        fault(sound, -1);
        fault("\n  " + sound + " \n ", -1);
        fault("paces3;treads5;doubts2;", -1);
        fault("paces\n3\n;treads 5doubt;doubts 2;", 17);
        fault("", 0);
        fault("   ", 3);
        fault("paces", 5);
        fault("paces ", 6);
        fault("paces 3", 7);
        fault("paces 3 ; treads 5 ; doubts 2", 29);
        fault("paces 3 ; treads 5 ; doubts 2 ", 30);
        fault("paces ;", 6);
        fault("treads 3;", 0);
        fault("paces 3; paces 3;", 9);
        fault("paces 3; treads 5; treads 5;", 19);
        fault(sound + " ;", 32);
        fault(sound + " paces", 32);
        fault(sound + "?", 31);
        fault("Paces 3;", 0);
        fault("pace 3;", 0);
        fault("pacess 3;", 0);
        fault("paces doubts;", 6);
        fault("paces doubt;treads x;", 19);
        fault("paces seamet;", 6);
        fault("paces sea met;", 10);
        fault("paces seaz;", 6);
        fault("paces sea{;", 9);
        fault("paces sea`;", 9);
        fault("paces asea;", 6);
        fault("paces 1 doubts 2;", 8);
        fault("paces 1 not 2;", 8);
        fault("paces 1 treads 2;", 8);
        fault("paces paces 2;", 6);
        fault("paces and 2;", 6);
        fault("paces or 2;", 6);
        fault("paces 1/2;", 7);
        fault("paces 1:2;", 7);
        fault("paces 9999; treads 00012; ", 19);
        fault("paces 99999;", 6);
        fault("paces 1 + 99999999999999999999;", 10);
        fault("paces 12 34;", 9);
        fault("paces 3 > 2;", 8);
        fault("paces 3\t;", 7);
        fault("paces 3" + (char) 233 + ";", 7);
        fault("paces 3" + (char) 0 + ";", 7);
        fault("paces 1 < 2 < 3;", 12);
        fault("paces 1 = 2 = 3;", 12);
        fault("paces 1 < not 2;", 10);
        fault("paces 1 + not 2;", 10);
        fault("paces 1 or or 2;", 11);
        fault("paces 1 and;", 11);
        fault("paces not;", 9);
        fault("paces (1;", 8);
        fault("paces 1);", 7);
        fault("paces ();", 7);
        fault("paces -;", 7);
        fault("paces * 2;", 6);
        fault("paces 1 + + 2;", 10);
        fault("paces + 2;", 6);
        fault("paces < 2;", 6);
        fault("paces (1;)", 8);
        fault("paces 3, treads", 7);
        fault("paces 1 - - 2; treads (1 < 2) < 3; doubts not 1 and not 2 < 3 or 4;", -1);
        fault("paces (not 1) + (2 or 3); treads - (1); doubts --1;", -1);
    }

    /** What an earlier tape left, or the tape's own end, is no part of a text. */
    private static void behindTheEnd() {
        CausewayKept x = new CausewayKept();
        due("a long number", Check.read(x, "paces 1234"), -110);
        due("a shorter one", Check.read(x, "paces 1"), -107);
        due("a long word", Check.read(x, "paces number"), -112);
        due("a shorter one of it", Check.read(x, "paces num"), -106);
        due("blanks", Check.read(x, "paces      "), -111);
        due("fewer blanks", Check.read(x, "paces "), -106);
        String blanks = " ".repeat(160);
        due("160 bytes to a number", Check.read(x, blanks.substring(10) + "paces 1234"), -260);
        due("160 bytes to a word", Check.read(x, blanks.substring(9) + "paces sea"), -260);
        due("160 bytes to a long number", Check.read(x, blanks.substring(11) + "paces 12345"), -255);
        due("160 blanks", Check.read(x, blanks), -260);
        due("160 minuses", Check.read(x, "paces " + "-".repeat(154)), -111);
        due("160 opened", Check.read(x, "paces " + "(".repeat(154)), -111);
        String text = "paces 1;treads 2;doubts " + "1+".repeat(67) + "9;";
        due("160 bytes", text.length(), 160);
        due("160 bytes are a text", Check.read(x, text), 1);
        x.force(1);
        x.person(0, 0, 1);
        due("and are told", x.told(0, 11), 1076);
    }

    private static void depth() {
        String rest = ";treads 1;doubts 1;";
        fault("paces (((((1)))))" + rest, -1);
        fault("paces ((((((1))))))" + rest, 11);
        fault("paces -----1" + rest, -1);
        fault("paces ------1" + rest, 11);
        fault("paces not not not not not 1" + rest, -1);
        fault("paces not not not not not not 1" + rest, 26);
        fault("paces not (-(not 1))" + rest, -1);
        fault("paces not (-(not -1))" + rest, 17);
        fault("paces not (-(not (1)))" + rest, 17);
        fault("paces not (-(not not 1))" + rest, 17);
        fault("paces not ((((1)))) and (((((1)))))" + rest, -1);
        fault("paces not ((((1)))) < (((((1)))))" + rest, 26);
        fault("paces -((((1)))) * (((((1)))))" + rest, -1);
        fault("paces (((((1))))) - (((((1)))))" + rest, -1);
        fault("paces -1 - -----1" + rest, -1);
        fault("paces (((((1 - 2) - 3) * 4) < 5) or 6)" + rest, -1);
        // a binary minus opens nothing, and what can't stand there can't stand in any depth
        fault("paces (((((1 - (2))))))" + rest, 15);
        fault("paces (((((1 - not 2)))))" + rest, 15);
    }

    /** What an E is, told by the doubts of a walker (-99 .. 99). */
    private static int value(String e) {
        CausewayKept x = Check.ruled("paces 0;treads 0;doubts " + e + ";");
        x.person(0, 7, 1);
        return x.told(0, 11) - 1000;
    }

    private static void values() {
        Object[][] rows = {
            {"1 + 2 * 3", 7}, {"(1 + 2) * 3", 9}, {"10 - 3 - 2", 5}, {"10 - (3 - 2)", 9}, {"2 * 3 + 4 * 5", 26},
            {"-3 + 1", -2}, {"-(3 + 1)", -4}, {"-2 * -3", 6}, {"--5", 5}, {"5 - -5", 10}, {"0099", 99},
            {"3 < 4", 1}, {"4 < 4", 0}, {"-1 < 0", 1}, {"4 = 4", 1}, {"4 = 5", 0}, {"1 + 1 < 3", 1}, {"1 < 1 + 1", 1},
            {"not 0", 1}, {"not 7", 0}, {"not not 7", 1}, {"not 3 < 2", 1}, {"not 2 = 3", 1}, {"(not 2) = 0", 1},
            {"7 and 8", 1}, {"7 and 0", 0}, {"0 and 7", 0}, {"7 or 0", 1}, {"0 or 7", 1}, {"0 or 0", 0}, {"-1 or 0", 1},
            {"1 or 0 and 0", 1}, {"(1 or 0) and 0", 0}, {"0 and 0 or 1", 1}, {"not 0 and 0", 0}, {"not 1 or 1", 1},
            {"5", 5}, {"(5)", 5}, {"0 or 0 or 5", 1}, {"1 and 2 and 3", 1}, {"500", 99}, {"-500", -99},
            // 9999^2 = 99980001; * 43 = 4299140043, which is 4172747 over 2^32
            {"9999 * 9999 * 43 = 4172 * 1000 + 747", 1}, {"9999 * 9999 * 22 < 0", 1}, {"0 - 9999 * 9999 * 22 < 0", 0},
            // 9999 to the 4th is 1089432001, of 32 bits
            {"9999 * 9999 * 9999 * 9999 = 1089 * 1000 * 1000 + 432 * 1000 + 1", 1}};
        for (Object[] r : rows) {
            due((String) r[0], value((String) r[0]), (Integer) r[1]);
        }
        StringBuilder deep = new StringBuilder();
        for (int i = 0; i < 5; i++) {
            deep.append("0 or 1 and 0<0+1*(");
        }
        due("all levels at once", value(deep + "7)))))"), 1);
    }

    private static void names() {
        String[] all = {"doubt", "firm", "number", "hour", "sea", "met"};
        int[] want = {11, 22, 7, 33, 44, 1};
        for (int i = 0; i < all.length; i++) {
            CausewayKept x = Check.ruled("paces 0;treads 0;doubts " + all[i] + ";");
            x.person(0, 7, 1);
            x.person(0, 1, 1);
            x.set(5, 0, 4);
            x.set(5, 1, 4);
            x.set(6, 0, 1);
            x.set(6, 1, 2);
            x.set(4, 0, 11);
            x.set(2, 4, 22);
            x.set(0, 0, 33);
            x.set(1, 0, 44);
            due(all[i], x.told(0, 11), 1000 + want[i]);
        }
    }

    private static void forces() {
        CausewayKept x = new CausewayKept();
        x.person(0, 0, 1);
        due("force(1) ahead of a text", x.force(1), -2);
        due("force(-1)", x.force(-1), -2);
        due("force(0)", x.force(0), 0);
        Check.read(x, "paces 1;treads 2;doubts 4;");
        due("a text is not the rule yet", x.told(0, 9), 3);
        due("force(1)", x.force(1), 0);
        due("paces 1", x.told(0, 9), 1);
        due("treads 2", x.told(0, 10), 2);
        due("doubts 4", x.told(0, 11), 1004);
        due("the rule", x.count(5), 1);
        due("force(2)", x.force(2), -2);
        due("force(0) again", x.force(0), 1);
        due("paces 3", x.told(0, 9), 3);
        due("treads 5", x.told(0, 10), 5);
        due("doubts 2", x.told(0, 11), 1002);
    }
}
