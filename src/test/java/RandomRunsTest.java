import java.util.Random;

/** Runs of drawn calls: what the class answers is what the model answers, call by call. */
public final class RandomRunsTest {
    private static final Check CHECK = new Check("RandomRunsTest");
    private static final int[] FAR = {Integer.MIN_VALUE, Integer.MAX_VALUE, -1, 6, 32, 41, 100, 1000, -1000, 1 << 30};

    private final Random random;
    private final CausewayKept x = new CausewayKept();
    private final Model m = new Model();
    private int calls;
    private String last = "";

    private RandomRunsTest(long seed) {
        random = new Random(seed);
    }

    public static void main(String[] args) {
        int runs = args.length > 0 ? Integer.parseInt(args[0]) : 400;
        for (int seed = 0; seed < runs; seed++) {
            new RandomRunsTest(seed).run(seed);
        }
        for (int seed = 0; seed < 20 * runs; seed++) {
            new RandomRunsTest(seed).readNested(seed);
        }
        CHECK.end();
    }

    private void run(int seed) {
        boolean withTexts = random.nextInt(4) > 0;
        if (withTexts) {
            feedText();
        }
        for (int i = 0; i < 2 + random.nextInt(4); i++) {
            ask(2);
        }
        while (calls < 500) {
            String before = last;
            long[] both = ask(random.nextInt(WEIGHED.length));
            CHECK.due("run " + seed + ", call " + calls + " (behind " + before + ") " + last, both[0], both[1]);
            if (both[0] != both[1]) {
                return;
            }
        }
    }

    /** Which call is drawn: those that change how all stands come more often than those that end a run's interest. */
    private static final int[] WEIGHED = {0, 1, 2, 3, 3, 3, 4, 5, 6, 7, 7, 8, 8, 9, 9, 10, 11, 11, 12, 13, 14, 15, 16, 16,
        16, 17, 17, 18, 18, 19, 20, 21, 22, 23, 24, 25, 25, 26, 27, 28, 29, 0, 0, 0, 0, 0, 9, 4};

    private long[] ask(int drawn) {
        int call = WEIGHED[drawn];
        calls++;
        switch (call) {
            case 0: return set();
            case 1: { int a = v(10), b = v(10), c = random.nextInt(6) == 0 ? v(3) : way(); return note("person", x.person(a % 7, b, c), m.person(a % 7, b, c), a % 7, b, c); }
            case 2: { int a = v(6), b = v(10), c = random.nextInt(9) == 0 ? v(3) : way(); return note("person", x.person(a, b, c), m.person(a, b, c), a, b, c); }
            case 3: { int a = v(random.nextBoolean() ? 6 : 33), b = v(14); return note("told", x.told(a, b), m.told(a, b), a, b); }
            case 4: return random.nextInt(3) == 0 ? feedText() : force();
            case 5: { int a = v(257); return note("feed", x.feed(a), m.feed(a), a); }
            case 6: return note("text", x.text(), m.text());
            case 7: { int a = v(6); return note("starts", x.starts(a), m.starts(a), a); }
            case 8: return note("hour", x.hour(), m.hour());
            case 9: { int a = v(5), b = v(62), c = random.nextBoolean() ? v(5) : v(43); return note("run", x.run(a, b, c), m.run(a, b, c), a, b, c); }
            case 10: { int a = v(6); return note("arrives", x.arrives(a), m.arrives(a), a); }
            case 11: { int a = v(6); return note("way", x.way(a), m.way(a), a); }
            case 12: { int a = random.nextInt(40) == 0 ? v(14) : v(5), b = v(3); return note("shifts", x.shifts(a, b), m.shifts(a, b), a, b); }
            case 13: { int a = v(random.nextBoolean() ? 12 : 42); return note("stands", x.stands(a), m.stands(a), a); }
            case 14: { int a = v(random.nextBoolean() ? 12 : 42), b = v(2); return note("leave", x.leave(a, b), m.leave(a, b), a, b); }
            case 15: { int a = v(3); return note("mean", x.mean(a), m.mean(a), a); }
            case 16: return tells();
            case 17: { int a = v(4), b = v(5); return note("places", x.places(a, b), m.places(a, b), a, b); }
            case 18: { int a = v(4), b = v(5), c = v(random.nextBoolean() ? 8 : 22); return note("film", x.film(a, b, c), m.film(a, b, c), a, b, c); }
            case 19: { int a = random.nextInt(), b = v(42); return note("drawn", x.drawn(a, b), m.drawn(a, b), a, b); }
            case 20: { int a = random.nextInt(), b = v(22), c = v(random.nextBoolean() ? 3 : 7), d = v(2); return note("chance", x.chance(a, b, c, d), m.chance(a, b, c, d), a, b, c, d); }
            case 21: return note("image", x.image(), m.image());
            case 22: return note("back", x.back(), m.back());
            case 23: { int a = v(7); return note("count", x.count(a), m.count(a), a); }
            case 24: { int a = v(5), b = v(5) - 1, c = v(random.nextBoolean() ? 6 : 43); return note("sheet", x.sheet(a, b, c), m.sheet(a, b, c), a, b, c); }
            case 25: { int a = v(4), b = v(random.nextBoolean() ? 6 : 41), c = random.nextBoolean() ? v(32) : random.nextInt(600) - 300; return note("cell", x.cell(a, b, c), m.cell(a, b, c), a, b, c); }
            case 26: return copy();
            case 27: { int a = v(4), b = v(3), c = v(10), d = v(7); return note("family", x.family(a, b, c, d), m.family(a, b, c, d), a, b, c, d); }
            case 28: { int a = v(6), b = v(7); return note("taken", x.taken(a, b), m.taken(a, b), a, b); }
            default: return sheetOfAFamily();
        }
    }

    private long[] set() {
        int what = v(7);
        int of = v(what == 2 ? 32 : 5);
        int[] below = {1001, 101, 101, 11, 60, 33, 4};
        int value = v(what >= 0 && what < 7 ? below[what] : 5);
        if (what == 0 && random.nextInt(3) > 0) {
            value = 990 + random.nextInt(12);
        }
        return note("set", x.set(what, of, value), m.set(what, of, value), what, of, value);
    }

    private long[] force() {
        int a = v(7);
        return note("force", x.force(a), m.force(a), a);
    }

    private long[] copy() {
        int a = v(4), b = v(5), c = v(4), d = v(5), e = v(5);
        return note("copy", x.copy(a, b, c, d, e), m.copy(a, b, c, d, e), a, b, c, d, e);
    }

    /** A film's sheet, perhaps changed in a cell, is what there is something to tell of. */
    private long[] tells() {
        int sheet = random.nextInt(4), one = random.nextInt(5);
        if (random.nextInt(3) > 0) {
            int n = random.nextInt(9);
            calls++;
            long[] both = note("film", x.film(sheet, one, n), m.film(sheet, one, n), sheet, one, n);
            if (both[0] != both[1]) {
                return both;
            }
            if (random.nextInt(4) == 0) {
                calls++;
                int v = random.nextInt(32);
                x.cell(sheet, n - 1, v);
                m.cell(sheet, n - 1, v);
            }
        }
        int a = random.nextInt(9) == 0 ? v(5) : sheet, b = random.nextInt(9) == 0 ? v(6) : one, what = v(8);
        return note("tells", x.tells(a, b, what), m.tells(a, b, what), a, b, what);
    }

    private long[] sheetOfAFamily() {
        int sheet = random.nextInt(4), sort = random.nextInt(3);
        x.sheet(sheet, sort, 9);
        m.sheet(sheet, sort, 9);
        for (int i = 0; i < 9; i++) {
            int v = i % 3 == 2 ? way() : random.nextInt(7);
            x.cell(sheet, i, v);
            m.cell(sheet, i, v);
        }
        calls += 10;
        int from = random.nextInt(4), n = random.nextInt(5);
        return note("family", x.family(sheet, sort, from, n), m.family(sheet, sort, from, n), sheet, sort, from, n);
    }

    // ---- texts

    private long[] feedText() {
        StringBuilder s = new StringBuilder();
        s.append("paces ").append(random.nextBoolean() ? 1 + random.nextInt(4) + "+" : "").append(e(2)).append(blank());
        s.append(";treads ").append(e(2)).append(";doubts ").append(blank()).append(e(2)).append(";");
        if (random.nextInt(4) == 0) {
            String odd = "();+-*<= \n0123456789abcdoubtfirmnotorand{A";
            for (int i = random.nextInt(3); i >= 0; i--) {
                int at = random.nextInt(s.length());
                char c = odd.charAt(random.nextInt(odd.length()));
                if (random.nextBoolean()) {
                    s.setCharAt(at, c);
                } else {
                    s.insert(at, c);
                }
            }
        }
        for (int i = 0; i < s.length(); i++) {
            x.feed(s.charAt(i));
            m.feed(s.charAt(i));
        }
        // feeding counts as one call here, so that a run has other calls too; the class has no limit of its own
        calls++;
        return note("text of " + s, x.text(), m.text());
    }

    private String blank() {
        return new String[] {"", " ", "\n", "  "}[random.nextInt(4)];
    }

    private String e(int depth) {
        int kind = random.nextInt(depth <= 0 ? 4 : 14);
        String[] names = {"doubt", "firm", "number", "hour", "sea", "met"};
        switch (kind) {
            case 0:
            case 1: return Integer.toString(random.nextInt(random.nextInt(5) == 0 ? 10000 : 12));
            case 2:
            case 3: return names[random.nextInt(6)];
            case 4: return "-" + e(0);
            case 5: return "(" + e(depth - 1) + ")";
            case 6: return "not " + e(depth - 1);
            case 7: return e(depth - 1) + blank() + "+" + blank() + e(depth - 1);
            case 8: return e(depth - 1) + "-" + e(depth - 1);
            case 9: return e(depth - 1) + "*" + e(depth - 1);
            case 10: return "(" + e(depth - 1) + "<" + e(depth - 1) + ")";
            case 11: return e(depth - 1) + "=" + e(depth - 1);
            case 12: return e(depth - 1) + " and " + e(depth - 1);
            default: return e(depth - 1) + " or " + e(depth - 1);
        }
    }

    /** Texts in which much is open at once, some of them cut off or with a token that is otherwise. */
    private void readNested(int seed) {
        String[] odd = {"(", ")", "not ", "-", "1", "<", " and ", ";", "sea", "", "", "12345", "}"};
        StringBuilder s = new StringBuilder("paces ");
        for (int part = 0; part < 3; part++) {
            s.append(part == 1 ? "treads " : part == 2 ? "doubts " : "").append(nested(2 + random.nextInt(5))).append(';');
        }
        if (random.nextBoolean()) {
            int at = random.nextInt(s.length());
            s.replace(at, at + random.nextInt(2), odd[random.nextInt(odd.length)]);
        }
        if (random.nextInt(9) == 0) {
            s.setLength(random.nextInt(s.length()));
        }
        for (int i = 0; i < s.length(); i++) {
            x.feed(s.charAt(i));
            m.feed(s.charAt(i));
        }
        int text = x.text();
        CHECK.due("nested text " + seed + ": " + s, text, m.text());
        x.person(0, 7, 1);
        m.person(0, 7, 1);
        x.force(text);
        m.force(text);
        for (int what = 9; what <= 11; what++) {
            CHECK.due("told(0, " + what + ") by " + s, x.told(0, what), m.told(0, what));
        }
    }

    private String nested(int depth) {
        String one = depth <= 1 ? Integer.toString(random.nextInt(50)) : null;
        switch (random.nextInt(depth <= 1 ? 1 : 7)) {
            case 0: return one != null ? one : "-" + nested(1);
            case 1: return "(" + nested(depth - 1) + ")";
            case 2: return "-(" + nested(depth - 2) + ")";
            case 3: return "(not " + nested(depth - 2) + ")";
            case 4: return nested(1) + "*(" + nested(depth - 1) + ")-" + nested(1);
            case 5: return "(" + nested(depth - 1) + "<" + nested(1) + ")+" + nested(1);
            default: return "-" + "(" + nested(depth - 2) + " or " + nested(1) + ")";
        }
    }

    // ---- numbers

    private int way() {
        return random.nextBoolean() ? 1 : -1;
    }

    private int v(int below) {
        return random.nextInt(25) == 0 ? FAR[random.nextInt(FAR.length)] : random.nextInt(below);
    }

    private long[] note(String call, long got, long want, int... args) {
        StringBuilder s = new StringBuilder(call).append('(');
        for (int i = 0; i < args.length; i++) {
            s.append(i > 0 ? ", " : "").append(args[i]);
        }
        last = s.append(')').toString();
        return new long[] {got, want};
    }
}
