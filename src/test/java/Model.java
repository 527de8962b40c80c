import java.util.ArrayList;
import java.util.Arrays;
import java.util.List;
import java.util.function.Consumer;
import java.util.function.LongSupplier;

/**
 * The document told a second time, for the tests: people as objects under one another, texts as trees,
 * worlds that are copied whole, and bad tokens as exceptions. Slower than the class and written apart from it.
 */
final class Model {
    static final int NONE = -1, BAD = -2, STATE = -3, FULL = -4;
    static final long NO = -4611686018427387904L;

    // ---- people, kind under kind

    private static class Walker {
        int kind;
        int number;
        int way;
        int doubt;
        int at;
        int how;

        int pace(World w, int v) {
            return v;
        }

        int treads(World w, int v) {
            return v;
        }

        int doubts(World w, int v) {
            return v;
        }

        boolean is(int k) {
            Class<?>[] kinds = {Walker.class, Clerk.class, Old.class, Child.class, Letters.class, Young.class};
            return kinds[k].isInstance(this);
        }

        static Walker of(int kind) {
            Walker[] all = {new Walker(), new Clerk(), new Old(), new Child(), new Letters(), new Young()};
            all[kind].kind = kind;
            return all[kind];
        }

        Walker as(int otherKind) {
            Walker p = of(otherKind);
            p.number = number;
            p.way = way;
            p.doubt = doubt;
            p.at = at;
            p.how = how;
            return p;
        }
    }

    private static class Clerk extends Walker {
        @Override
        int pace(World w, int v) {
            return doubt > 20 ? super.pace(w, v) / 2 : super.pace(w, v);
        }

        @Override
        int doubts(World w, int v) {
            return number + super.doubts(w, v);
        }
    }

    private static class Old extends Walker {
        @Override
        int pace(World w, int v) {
            return super.pace(w, v) - 1;
        }

        @Override
        int treads(World w, int v) {
            return super.treads(w, v) * 2;
        }

        @Override
        int doubts(World w, int v) {
            return 0 - super.doubts(w, v);
        }
    }

    private static final class Child extends Clerk {
        @Override
        int pace(World w, int v) {
            return super.pace(w, v) + number % 3;
        }

        @Override
        int treads(World w, int v) {
            return super.treads(w, v) / 2;
        }

        @Override
        int doubts(World w, int v) {
            return w.hour % 2 != 0 ? super.doubts(w, v) : 0;
        }
    }

    private static final class Letters extends Old {
        @Override
        int pace(World w, int v) {
            return w.met(this) > 0 ? super.pace(w, v) + 1 : super.pace(w, v);
        }

        @Override
        int treads(World w, int v) {
            return super.treads(w, v) + number;
        }

        @Override
        int doubts(World w, int v) {
            return w.met(this) > 0 ? super.doubts(w, v) - 10 : super.doubts(w, v);
        }
    }

    private static final class Young extends Walker {
        @Override
        int pace(World w, int v) {
            return 2 * super.pace(w, v);
        }

        @Override
        int treads(World w, int v) {
            return 0;
        }

        @Override
        int doubts(World w, int v) {
            return 2 * super.doubts(w, v);
        }
    }

    // ---- the world

    private final class World {
        int[] firm = new int[32];
        int hour;
        int sea = 10;
        int rule;
        List<Walker> people = new ArrayList<>();

        World copy() {
            World w = new World();
            w.firm = firm.clone();
            w.hour = hour;
            w.sea = sea;
            w.rule = rule;
            for (Walker p : people) {
                w.people.add(p.as(p.kind));
            }
            return w;
        }

        boolean out(Walker p) {
            return p.how == 1 || p.how == 2;
        }

        int met(Walker p) {
            return !out(p) ? 0 : (int) people.stream().filter(o -> o != p && out(o) && o.at == p.at).count();
        }

        int count(int how) {
            return (int) people.stream().filter(p -> p.how == how).count();
        }

        int pace(Walker p) {
            return within(p.pace(this, within(texts.get(rule).paces.value(this, p), 0, 99)), 0, 9);
        }

        int treads(Walker p) {
            return within(p.treads(this, within(texts.get(rule).treads.value(this, p), -99, 99)), 0, 99);
        }

        int doubts(Walker p) {
            return p.doubts(this, within(texts.get(rule).doubts.value(this, p), -99, 99));
        }

        World pass(int n) {
            for (int i = 0; i < n; i++) {
                pass();
            }
            return this;
        }

        void pass() {
            for (Walker p : people) {
                if (p.how != 1) {
                    continue;
                }
                int pace = pace(p);
                int treads = treads(p);
                int doubts = doubts(p);
                p.doubt = within(p.doubt + doubts, 0, 99);
                while (pace-- > 0) {
                    if (p.at == (p.way == 1 ? 31 : 0)) {
                        p.how = 3;
                        break;
                    }
                    p.at += p.way;
                    firm[p.at] = within(firm[p.at] + treads, 0, 99);
                    people.stream().filter(o -> o.how == 2 && o.at == p.at).forEach(o -> o.how = 1);
                }
                if (p.how == 1 && firm[p.at] < p.doubt) {
                    p.how = 2;
                }
            }
            for (int i = 0; i < 32; i++) {
                firm[i] = within(firm[i] - sea / 10, 0, 99);
            }
            hour++;
        }
    }

    private static int within(int v, int low, int high) {
        return v < low ? low : v > high ? high : v;
    }

    // ---- texts

    private interface Tree {
        int value(World w, Walker p);
    }

    private record Text(Tree paces, Tree treads, Tree doubts) {
    }

    private static final class Fault extends Exception {
        private static final long serialVersionUID = 1L;
        final int place;

        Fault(int place) {
            this.place = place;
        }
    }

    private record Token(String word, int start) {
    }

    private static final List<String> NAMES = List.of("doubt", "firm", "number", "hour", "sea", "met");
    private static final List<String> KEYS = List.of("paces", "treads", "doubts", "or", "and", "not");

    /** All tokens ahead of the first that is none; a last one, with no word, tells where that is. */
    private static List<Token> tokens(String tape) {
        List<Token> all = new ArrayList<>();
        int i = 0;
        while (i < tape.length()) {
            String rest = tape.substring(i);
            char c = rest.charAt(0);
            int n = 1;
            if (c == ' ' || c == '\n') {
                i++;
                continue;
            }
            if (c >= 'a' && c <= 'z') {
                n = rest.length() - rest.replaceFirst("^[a-z]+", "").length();
                String word = rest.substring(0, n);
                if (!NAMES.contains(word) && !KEYS.contains(word)) {
                    break;
                }
            } else if (c >= '0' && c <= '9') {
                n = rest.length() - rest.replaceFirst("^[0-9]+", "").length();
                if (n > 4) {
                    break;
                }
            } else if ("();+-*<=".indexOf(c) < 0) {
                break;
            }
            all.add(new Token(rest.substring(0, n), i));
            i += n;
        }
        all.add(new Token("", i));
        return all;
    }

    private static final class Parser {
        final List<Token> tokens;
        int next;
        int open;

        Parser(List<Token> tokens) {
            this.tokens = tokens;
        }

        String word() {
            return tokens.get(next).word;
        }

        Fault fault() {
            return new Fault(tokens.get(next).start);
        }

        boolean takes(String word) {
            if (word().equals(word)) {
                next++;
                return true;
            }
            return false;
        }

        void must(String word) throws Fault {
            if (!takes(word)) {
                throw fault();
            }
        }

        void opens() throws Fault {
            if (open == 5) {
                throw fault();
            }
            open++;
            next++;
        }

        Text text() throws Fault {
            Tree[] parts = new Tree[3];
            for (int i = 0; i < 3; i++) {
                must(KEYS.get(i));
                parts[i] = any();
                must(";");
            }
            return new Text(parts[0], parts[1], parts[2]);
        }

        Tree any() throws Fault {
            Tree a = all();
            while (takes("or")) {
                Tree left = a;
                Tree right = all();
                a = (w, p) -> left.value(w, p) != 0 | right.value(w, p) != 0 ? 1 : 0;
            }
            return a;
        }

        Tree all() throws Fault {
            Tree a = not();
            while (takes("and")) {
                Tree left = a;
                Tree right = not();
                a = (w, p) -> left.value(w, p) != 0 & right.value(w, p) != 0 ? 1 : 0;
            }
            return a;
        }

        Tree not() throws Fault {
            if (word().equals("not")) {
                opens();
                Tree of = not();
                open--;
                return (w, p) -> of.value(w, p) == 0 ? 1 : 0;
            }
            Tree left = sum();
            if (takes("<")) {
                Tree right = sum();
                return (w, p) -> left.value(w, p) < right.value(w, p) ? 1 : 0;
            }
            if (takes("=")) {
                Tree right = sum();
                return (w, p) -> left.value(w, p) == right.value(w, p) ? 1 : 0;
            }
            return left;
        }

        Tree sum() throws Fault {
            Tree a = term();
            while (true) {
                Tree left = a;
                if (takes("+")) {
                    Tree right = term();
                    a = (w, p) -> left.value(w, p) + right.value(w, p);
                } else if (takes("-")) {
                    Tree right = term();
                    a = (w, p) -> left.value(w, p) - right.value(w, p);
                } else {
                    return a;
                }
            }
        }

        Tree term() throws Fault {
            Tree a = one();
            while (takes("*")) {
                Tree left = a;
                Tree right = one();
                a = (w, p) -> left.value(w, p) * right.value(w, p);
            }
            return a;
        }

        Tree one() throws Fault {
            String word = word();
            if (word.equals("-")) {
                opens();
                Tree of = one();
                open--;
                return (w, p) -> -of.value(w, p);
            }
            if (word.equals("(")) {
                opens();
                Tree of = any();
                must(")");
                open--;
                return of;
            }
            if (NAMES.contains(word)) {
                next++;
                return named(word);
            }
            if (!word.isEmpty() && Character.isDigit(word.charAt(0))) {
                next++;
                int v = Integer.parseInt(word);
                return (w, p) -> v;
            }
            throw fault();
        }

        private static Tree named(String word) {
            switch (word) {
                case "doubt": return (w, p) -> p.doubt;
                case "firm": return (w, p) -> w.firm[p.at];
                case "number": return (w, p) -> p.number;
                case "hour": return (w, p) -> w.hour;
                case "sea": return (w, p) -> w.sea;
                default: return (w, p) -> w.met(p);
            }
        }
    }

    private static Text read(String tape) throws Fault {
        List<Token> tokens = tokens(tape);
        Parser parser = new Parser(tokens);
        Text text = parser.text();
        if (tokens.get(parser.next).start != tape.length()) {
            throw parser.fault();
        }
        return text;
    }

    // ---- the state

    private final List<Text> texts = new ArrayList<>();
    private final World now = new World();
    private World shown = now;
    private World image;
    private String tape = "";
    private final int[][] sheets = new int[4][];
    private final int[] sorts = {-1, -1, -1, -1};

    Model() {
        Arrays.fill(now.firm, 30);
        try {
            texts.add(read("paces 3 ; treads 5 ; doubts 2 ;"));
        } catch (Fault f) {
            throw new IllegalStateException(f);
        }
    }

    private boolean isOne(int one) {
        return 0 <= one && one < shown.people.size();
    }

    private static boolean isIn(int v, int low, int high) {
        return low <= v && v <= high;
    }

    // ---- the calls

    int set(int what, int of, int v) {
        int[] most = {999, 99, 99, 9, 99, 31, 3};
        if (!isIn(what, 0, 6) || !isIn(v, 0, most[what]) || (what == 2 && !isIn(of, 0, 31)) || (what > 2 && !isOne(of))) {
            return BAD;
        }
        int was = told(of, what);
        Walker p = what > 2 ? shown.people.get(of) : null;
        List<Runnable> sets = List.of(() -> shown.hour = v, () -> shown.sea = v, () -> shown.firm[of] = v,
            () -> p.number = v, () -> p.doubt = v, () -> p.at = v, () -> p.how = v);
        sets.get(what).run();
        return was;
    }

    int person(int kind, int number, int way) {
        if (!isIn(kind, 0, 5) || !isIn(number, 0, 9) || Math.abs((long) way) != 1) {
            return BAD;
        }
        if (shown.people.size() == 5) {
            return FULL;
        }
        Walker p = Walker.of(kind);
        p.number = number;
        p.way = way;
        p.at = way == 1 ? 0 : 31;
        shown.people.add(p);
        return shown.people.size() - 1;
    }

    int told(int of, int what) {
        if (what == 0 || what == 1) {
            return what == 0 ? shown.hour : shown.sea;
        }
        if (what == 2 || what == 12) {
            if (!isIn(of, 0, 31)) {
                return -1000;
            }
            int bits = 0;
            for (int i = 0; i < shown.people.size(); i++) {
                Walker p = shown.people.get(i);
                bits += shown.out(p) && p.at == of ? Math.pow(2, i) : 0;
            }
            return what == 2 ? shown.firm[of] : bits;
        }
        if (!isIn(what, 3, 11) || !isOne(of)) {
            return -1000;
        }
        Walker p = shown.people.get(of);
        int[] all = {p.number, p.doubt, p.at, p.how, p.kind, p.way + 1, shown.pace(p), shown.treads(p), shown.doubts(p) + 1000};
        return all[what - 3];
    }

    int feed(int letter) {
        if (!isIn(letter, 0, 255)) {
            return BAD;
        }
        if (tape.length() == 160) {
            return FULL;
        }
        tape += (char) letter;
        return tape.length();
    }

    int text() {
        if (texts.size() == 6) {
            return FULL;
        }
        String whole = tape;
        tape = "";
        try {
            texts.add(read(whole));
            return texts.size() - 1;
        } catch (Fault f) {
            return -100 - f.place;
        }
    }

    int force(int text) {
        if (!isIn(text, 0, texts.size() - 1)) {
            return BAD;
        }
        int was = shown.rule;
        shown.rule = text;
        return was;
    }

    int starts(int one) {
        if (!isOne(one)) {
            return BAD;
        }
        if (shown.people.get(one).how != 0) {
            return STATE;
        }
        shown.people.get(one).how = 1;
        return shown.count(1);
    }

    int hour() {
        if (shown.hour == 999) {
            return STATE;
        }
        shown.pass();
        return shown.count(3);
    }

    int run(int one, int n, int what) {
        if (!isOne(one) || !isIn(n, 0, 60) || !(isIn(what, 0, 4) || isIn(what, 10, 41))) {
            return BAD;
        }
        World w = shown.copy().pass(n);
        Walker p = w.people.get(one);
        return what > 4 ? w.firm[what - 10] : new int[] {p.at, p.how, p.doubt, w.count(3), w.count(2)}[what];
    }

    int arrives(int one) {
        if (!isOne(one)) {
            return BAD;
        }
        for (int n = 0; n <= 60; n++) {
            if (run(one, n, 1) == 3) {
                return n;
            }
        }
        return NONE;
    }

    int way(int what) {
        int least = Arrays.stream(shown.firm).min().getAsInt();
        int first = 0;
        while (shown.firm[first] != least) {
            first++;
        }
        return isIn(what, 0, 4) ? new int[] {first, least, shown.count(1), shown.count(2), shown.count(3)}[what] : BAD;
    }

    private void allWays(int[] choice, int one, Consumer<int[]> tried) {
        if (one == choice.length) {
            tried.accept(choice.clone());
        } else if (shown.people.get(one).how != 0) {
            choice[one] = 0;
            allWays(choice, one + 1, tried);
        } else {
            for (int c = 1; c <= 4; c++) {
                choice[one] = c;
                allWays(choice, one + 1, tried);
            }
        }
    }

    int shifts(int n, int what) {
        if (!isIn(n, 0, 12) || !isIn(what, 0, 2)) {
            return BAD;
        }
        List<long[]> found = new ArrayList<>();
        allWays(new int[shown.people.size()], 0, choice -> {
            World w = shown.copy();
            for (int h = 0; h < n; h++) {
                for (int i = 0; i < choice.length; i++) {
                    w.people.get(i).how = choice[i] < 4 && choice[i] == h + 1 ? 1 : w.people.get(i).how;
                }
                w.pass();
            }
            long digits = 0;
            for (int c : choice) {
                digits = digits * 10 + c;
            }
            found.add(new long[] {w.count(3), w.count(2), digits});
        });
        found.sort((a, b) -> a[0] != b[0] ? Long.compare(b[0], a[0])
            : a[1] != b[1] ? Long.compare(a[1], b[1]) : Long.compare(a[2], b[2]));
        return (int) found.get(0)[(what + 2) % 3];
    }

    int stands(int n) {
        if (!isIn(n, 1, 40)) {
            return BAD;
        }
        int best = NONE;
        for (int sea = 0; sea <= 99; sea++) {
            World w = shown.copy();
            w.sea = sea;
            best = w.pass(n).count(2) > shown.count(2) ? best : sea;
        }
        return best;
    }

    int leave(int n, int what) {
        if (!isIn(n, 1, 40) || !isIn(what, 0, 1)) {
            return BAD;
        }
        int[] best = {NONE, shown.copy().pass(n).count(2)};
        for (int i = shown.people.size() - 1; i >= 0; i--) {
            World w = shown.copy();
            if (w.people.get(i).how == 1) {
                w.people.get(i).how = 0;
                int sunk = w.pass(n).count(2);
                if (sunk < best[1] || (sunk == best[1] && best[0] != NONE)) {
                    best = new int[] {i, sunk};
                }
            }
        }
        return best[what];
    }

    private static long lowest(long above, long below, int part) {
        for (long d = below; d > 1; d--) {
            if (above % d == 0 && below % d == 0) {
                return lowest(above / d, below / d, part);
            }
        }
        return part == 0 ? above : below;
    }

    long mean(int part) {
        return isIn(part, 0, 1) ? lowest(Arrays.stream(shown.firm).sum(), 32, part) : NO;
    }

    private long refused(int sheet, int one) {
        if (!isIn(sheet, 0, 3) || !isOne(one)) {
            return BAD;
        }
        if (sheets[sheet] == null) {
            return -11;
        }
        return sheets[sheet].length > 20 ? BAD : 0;
    }

    private int otherwise(int sheet, int one, Consumer<World> supposed) {
        World w = shown.copy();
        supposed.accept(w);
        int[] told = sheets[sheet];
        int[] goes = new int[told.length];
        for (int i = 0; i < told.length; i++) {
            w.pass();
            goes[i] = w.people.get(one).at;
        }
        return Arrays.mismatch(told, goes);
    }

    private interface Supposed {
        void lay(World w, int v);
    }

    private List<Integer> fitting(int sheet, int one, int below, Supposed supposed) {
        List<Integer> fit = new ArrayList<>();
        for (int v = 0; v < below; v++) {
            int value = v;
            if (otherwise(sheet, one, w -> supposed.lay(w, value)) < 0) {
                fit.add(v);
            }
        }
        return fit;
    }

    private static long bits(List<Integer> fit) {
        return fit.stream().mapToLong(v -> 1L << v).sum();
    }

    int tells(int sheet, int one, int what) {
        if (!isIn(what, 0, 7)) {
            return BAD;
        }
        if (refused(sheet, one) != 0) {
            return (int) refused(sheet, one);
        }
        List<Integer> doubts = fitting(sheet, one, 100, (w, v) -> w.people.get(one).doubt = v);
        List<Integer> seas = fitting(sheet, one, 100, (w, v) -> w.sea = v);
        LongSupplier[] answers = {() -> otherwise(sheet, one, w -> { }),
            () -> bits(fitting(sheet, one, 6, (w, v) -> w.people.set(one, w.people.get(one).as(v)))),
            () -> bits(fitting(sheet, one, 10, (w, v) -> w.people.get(one).number = v)),
            () -> doubts.size(), () -> doubts.isEmpty() ? NONE : doubts.get(0),
            () -> seas.size(), () -> seas.isEmpty() ? NONE : seas.get(0),
            () -> bits(fitting(sheet, one, texts.size(), (w, v) -> w.rule = v))};
        return (int) answers[what].getAsLong();
    }

    long places(int sheet, int one) {
        return refused(sheet, one) != 0 ? NO : bits(fitting(sheet, one, 32, (w, v) -> w.people.get(one).at = v));
    }

    int film(int sheet, int one, int n) {
        if (!isIn(sheet, 0, 3) || !isOne(one) || !isIn(n, 0, 20)) {
            return BAD;
        }
        sorts[sheet] = 0;
        sheets[sheet] = new int[n];
        for (int i = 0; i < n; i++) {
            sheets[sheet][i] = run(one, i + 1, 0);
        }
        return n;
    }

    int drawn(int seed, int n) {
        if (!isIn(n, 0, 40)) {
            return BAD;
        }
        World w = shown.copy();
        long z = seed & 0xFFFFFFFFL;
        for (int i = 0; i < n; i++) {
            z = (z * 1103515245L + 12345L) & 0xFFFFFFFFL;
            w.sea = (int) (z / 512 % 100);
            w.pass();
        }
        return w.count(3);
    }

    long chance(int seed, int m, int k, int part) {
        if (!isIn(m, 1, 20) || !isIn(k, 0, 5) || !isIn(part, 0, 1)) {
            return NO;
        }
        long enough = 0;
        for (int i = 0; i < m; i++) {
            enough += drawn(seed + i, 12) >= k ? 1 : 0;
        }
        return lowest(enough, m, part);
    }

    int image() {
        image = shown.copy();
        return image.people.size();
    }

    int back() {
        if (image == null) {
            return STATE;
        }
        shown = image.copy();
        return shown.people.size();
    }

    int count(int what) {
        int[] all = {shown.people.size(), (int) Arrays.stream(shown.firm).filter(f -> f == 0).count(), shown.hour,
            texts.size(), tape.length(), shown.rule};
        return isIn(what, 0, 5) ? all[what] : BAD;
    }

    int sheet(int sheet, int sort, int n) {
        if (!isIn(sheet, 0, 3) || !isIn(sort, -1, 2)) {
            return BAD;
        }
        if (sort >= 0 && n > 40) {
            return BAD;
        }
        if (sort >= 0 && n < 0) {
            return -14;
        }
        sorts[sheet] = sort;
        sheets[sheet] = sort < 0 ? null : new int[n];
        return 1;
    }

    int cell(int sheet, int i, int v) {
        if (!isIn(sheet, 0, 3)) {
            return BAD;
        }
        if (sheets[sheet] == null) {
            return -11;
        }
        if (!isIn(i, 0, sheets[sheet].length - 1)) {
            return -12;
        }
        sheets[sheet][i] = new int[] {(byte) v, (short) v, v}[sorts[sheet]];
        return 1;
    }

    int copy(int sheet, int i, int other, int j, int n) {
        if (!isIn(sheet, 0, 3) || !isIn(other, 0, 3)) {
            return BAD;
        }
        if (sheets[sheet] == null || sheets[other] == null) {
            return -11;
        }
        if (sorts[sheet] != sorts[other]) {
            return -13;
        }
        if (n < 0 || i < 0 || j < 0 || (long) i + n > sheets[sheet].length || (long) j + n > sheets[other].length) {
            return -12;
        }
        int[] were = sheets[sheet].clone();
        for (int k = 0; k < n; k++) {
            sheets[other][j + k] = were[i + k];
        }
        return n;
    }

    int family(int sheet, int sort, int from, int n) {
        if (!isIn(sheet, 0, 3) || !isIn(sort, 0, 2) || !isIn(n, 0, 5)) {
            return BAD;
        }
        if (sheets[sheet] == null || sorts[sheet] != sort) {
            return sheets[sheet] == null ? -11 : -13;
        }
        int came = 0;
        for (int k = 0; k < n; k++) {
            int[] of = new int[3];
            for (int l = 0; l < 3; l++) {
                long i = from + 3L * k + l;
                if (i < 0 || i >= sheets[sheet].length) {
                    return -12;
                }
                of[l] = sheets[sheet][(int) i];
            }
            came += person(of[0], of[1], of[2]) >= 0 ? 1 : 0;
        }
        return came;
    }

    int taken(int one, int k) {
        if (!isIn(k, 0, 5)) {
            return BAD;
        }
        if (!isOne(one)) {
            return -11;
        }
        return shown.people.get(one).is(k) ? shown.people.get(one).number : -13;
    }
}
