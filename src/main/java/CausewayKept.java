import java.util.Arrays;

/** A way over the sand that is kept by those who go over it; what each call answers stands in DOC.md. */
public final class CausewayKept {
    public static final int NONE = -1, BAD = -2, STATE = -3, FULL = -4;
    public static final long NO = -4611686018427387904L;

    private static final int NOTHING = -11, OUTSIDE = -12, OTHER_SORT = -13, BELOW_ZERO = -14;
    private static final int NONE_SUCH = -1000, FAULTS_FROM = -100;

    private static final int PLACES = 32, MOST_FIRM = 99, MOST_SEA = 99, MOST_DOUBT = 99;
    private static final int MOST_PEOPLE = 5, KINDS = 6, NUMBERS = 10, MOST_HOUR = 999;
    private static final int HOME = 0, ON = 1, SUNK = 2, OVER = 3;
    private static final int WALKER = 0, CLERK = 1, OLD = 2, CHILD = 3, LETTERS = 4, YOUNG = 5;

    private static final int PACES_PART = 0, TREADS_PART = 1, DOUBTS_PART = 2, PARTS = 3;
    private static final int MOST_TEXTS = 6, TAPE_ROOM = 160, MOST_OPEN = 5, MOST_DIGITS = 4;
    private static final int DOUBT_NAME = 0, FIRM_NAME = 1, NUMBER_NAME = 2, HOUR_NAME = 3;
    private static final int SEA_NAME = 4, MET_NAME = 5, NAMES = 6;

    private static final int SHEETS = 4, SHEET_ROOM = 40, MOST_TOLD = 20;
    private static final int MISSING = -1, BYTES = 0, SHORTS = 1, INTS = 2;

    // What of a walk is thought to be otherwise while a walk that was told is read back.
    private static final int AS_IT_IS = 0, KIND = 1, NUMBER = 2, DOUBT = 3, PLACE = 4, SEA = 5, TEXT = 6;

    private static final int START_CHOICES = 4, LONGEST_SHIFTS = 12, LONGEST_THOUGHT = 60, LONGEST_SEA = 40;
    private static final int MOST_SEEDS = 20, SEED_HOURS = 12;

    private final Walk now = new Walk();
    private final Walk thought = new Walk();
    private final Walk kept = new Walk();
    private boolean hasImage;
    private final Texts texts = new Texts();
    private final Reader reader = new Reader();
    private final Sheet[] sheets = new Sheet[SHEETS];
    private final int[] plan = new int[MOST_PEOPLE];

    // What the last search of shifts() or leave() found best.
    private int bestChoice;
    private int bestOver;
    private int bestSunk;

    public CausewayKept() {
        for (int i = 0; i < SHEETS; i++) {
            sheets[i] = new Sheet();
        }
    }

    // ---- the way, people

    public int set(int what, int of, int v) {
        if (!isSettable(what, of) || v < 0 || v > mostOf(what)) {
            return BAD;
        }
        int was = stateOf(what, of);
        switch (what) {
            case 0: now.hours = v; break;
            case 1: now.sea = v; break;
            case 2: now.firm[of] = v; break;
            case 3: now.number[of] = v; break;
            case 4: now.doubt[of] = v; break;
            case 5: now.at[of] = v; break;
            default: now.how[of] = v; break;
        }
        return was;
    }

    public int person(int kind, int number, int way) {
        if (kind < 0 || kind >= KINDS || number < 0 || number >= NUMBERS || (way != 1 && way != -1)) {
            return BAD;
        }
        return now.add(kind, number, way);
    }

    public int told(int of, int what) {
        if (isSettable(what, of)) {
            return stateOf(what, of);
        }
        if (what == 12) {
            return isPlace(of) ? now.bitsAt(of) : NONE_SUCH;
        }
        if (!isOne(of)) {
            return NONE_SUCH;
        }
        switch (what) {
            case 7: return now.kind[of];
            case 8: return now.step[of] + 1;
            case 9:
            case 10:
            case 11: return ruledOf(of, what);
            default: return NONE_SUCH;
        }
    }

    // ---- texts

    public int feed(int letter) {
        if (letter < 0 || letter > 255) {
            return BAD;
        }
        return reader.add(letter) ? reader.size : FULL;
    }

    public int text() {
        if (texts.isFull()) {
            return FULL;
        }
        boolean sound = reader.readText();
        int answer = sound ? texts.add(reader.codeRead(), reader.ends) : FAULTS_FROM - reader.start;
        reader.size = 0;
        return answer;
    }

    public int force(int text) {
        if (text < 0 || text >= texts.size) {
            return BAD;
        }
        int was = now.rule;
        now.rule = text;
        return was;
    }

    // ---- walking

    public int starts(int one) {
        if (!isOne(one)) {
            return BAD;
        }
        if (now.how[one] != HOME) {
            return STATE;
        }
        now.how[one] = ON;
        return now.howMany(ON);
    }

    public int hour() {
        if (now.hours >= MOST_HOUR) {
            return STATE;
        }
        now.passHour(texts);
        return now.howMany(OVER);
    }

    public int run(int one, int n, int what) {
        boolean asksPlace = what >= 10 && what < 10 + PLACES;
        if (!isOne(one) || n < 0 || n > LONGEST_THOUGHT || what < 0 || (what > 4 && !asksPlace)) {
            return BAD;
        }
        thought.become(now);
        thought.passHours(n, texts);
        switch (what) {
            case 0: return thought.at[one];
            case 1: return thought.how[one];
            case 2: return thought.doubt[one];
            case 3: return thought.howMany(OVER);
            case 4: return thought.howMany(SUNK);
            default: return thought.firm[what - 10];
        }
    }

    public int arrives(int one) {
        if (!isOne(one)) {
            return BAD;
        }
        thought.become(now);
        for (int n = 0; n <= LONGEST_THOUGHT; n++) {
            if (thought.how[one] == OVER) {
                return n;
            }
            thought.passHour(texts);
        }
        return NONE;
    }

    public int way(int what) {
        switch (what) {
            case 0: return now.leastFirm();
            case 1: return now.firm[now.leastFirm()];
            case 2: return now.howMany(ON);
            case 3: return now.howMany(SUNK);
            case 4: return now.howMany(OVER);
            default: return BAD;
        }
    }

    // ---- what would be best

    public int shifts(int n, int what) {
        if (n < 0 || n > LONGEST_SHIFTS || what < 0 || what > 2) {
            return BAD;
        }
        searchShifts(n);
        return what == 0 ? bestChoice : what == 1 ? bestOver : bestSunk;
    }

    public int stands(int n) {
        if (n < 1 || n > LONGEST_SEA) {
            return BAD;
        }
        int sunkNow = now.howMany(SUNK);
        for (int sea = MOST_SEA; sea >= 0; sea--) {
            thought.become(now);
            thought.sea = sea;
            thought.passHours(n, texts);
            if (thought.howMany(SUNK) <= sunkNow) {
                return sea;
            }
        }
        return NONE;
    }

    public int leave(int n, int what) {
        if (n < 1 || n > LONGEST_SEA || what < 0 || what > 1) {
            return BAD;
        }
        searchLeave(n);
        return what == 0 ? bestChoice : bestSunk;
    }

    public long mean(int part) {
        return lowestTerms(now.firmTogether(), PLACES, part);
    }

    // ---- walks that were told

    public int tells(int sheet, int one, int what) {
        if (what < 0 || what > 7) {
            return BAD;
        }
        int refusal = refusalOfTold(sheet, one);
        if (refusal != 0) {
            return refusal;
        }
        Sheet told = sheets[sheet];
        switch (what) {
            case 0: return firstOtherwise(told, one, AS_IT_IS, 0);
            case 1: return (int) bitsThatFit(told, one, KIND, KINDS);
            case 2: return (int) bitsThatFit(told, one, NUMBER, NUMBERS);
            case 3: return howManyFit(told, one, DOUBT, MOST_DOUBT + 1);
            case 4: return leastThatFits(told, one, DOUBT, MOST_DOUBT + 1);
            case 5: return howManyFit(told, one, SEA, MOST_SEA + 1);
            case 6: return leastThatFits(told, one, SEA, MOST_SEA + 1);
            default: return (int) bitsThatFit(told, one, TEXT, texts.size);
        }
    }

    public long places(int sheet, int one) {
        if (refusalOfTold(sheet, one) != 0) {
            return NO;
        }
        return bitsThatFit(sheets[sheet], one, PLACE, PLACES);
    }

    public int film(int sheet, int one, int n) {
        if (!isSheet(sheet) || !isOne(one) || n < 0 || n > MOST_TOLD) {
            return BAD;
        }
        Sheet row = sheets[sheet];
        row.become(BYTES, n);
        thought.become(now);
        for (int i = 0; i < n; i++) {
            thought.passHour(texts);
            row.put(i, thought.at[one]);
        }
        return n;
    }

    public int drawn(int seed, int n) {
        if (n < 0 || n > LONGEST_SEA) {
            return BAD;
        }
        return overWhenDrawn(seed, n);
    }

    public long chance(int seed, int m, int k, int part) {
        if (m < 1 || m > MOST_SEEDS || k < 0 || k > MOST_PEOPLE || part < 0 || part > 1) {
            return NO;
        }
        int enough = 0;
        for (int i = 0; i < m; i++) {
            if (overWhenDrawn(seed + i, SEED_HOURS) >= k) {
                enough++;
            }
        }
        return lowestTerms(enough, m, part);
    }

    public int image() {
        kept.become(now);
        hasImage = true;
        return kept.people;
    }

    public int back() {
        if (!hasImage) {
            return STATE;
        }
        now.become(kept);
        return now.people;
    }

    public int count(int what) {
        switch (what) {
            case 0: return now.people;
            case 1: return now.placesWithout();
            case 2: return now.hours;
            case 3: return texts.size;
            case 4: return reader.size;
            case 5: return now.rule;
            default: return BAD;
        }
    }

    // ---- the host

    public int sheet(int sheet, int sort, int n) {
        if (!isSheet(sheet) || sort < MISSING || sort > INTS) {
            return BAD;
        }
        if (sort != MISSING && n > SHEET_ROOM) {
            return BAD;
        }
        if (sort != MISSING && n < 0) {
            return BELOW_ZERO;
        }
        sheets[sheet].become(sort, n);
        return 1;
    }

    public int cell(int sheet, int i, int v) {
        if (!isSheet(sheet)) {
            return BAD;
        }
        Sheet row = sheets[sheet];
        if (row.sort == MISSING) {
            return NOTHING;
        }
        if (!row.has(i)) {
            return OUTSIDE;
        }
        row.put(i, v);
        return 1;
    }

    public int copy(int sheet, int i, int other, int j, int n) {
        if (!isSheet(sheet) || !isSheet(other)) {
            return BAD;
        }
        Sheet from = sheets[sheet];
        Sheet to = sheets[other];
        if (from.sort == MISSING || to.sort == MISSING) {
            return NOTHING;
        }
        if (from.sort != to.sort) {
            return OTHER_SORT;
        }
        if (!from.holds(i, n) || !to.holds(j, n)) {
            return OUTSIDE;
        }
        System.arraycopy(from.row, i, to.row, j, n);
        return n;
    }

    public int family(int sheet, int sort, int from, int n) {
        if (!isSheet(sheet) || sort < BYTES || sort > INTS || n < 0 || n > MOST_PEOPLE) {
            return BAD;
        }
        Sheet row = sheets[sheet];
        // A missing row is of no sort, so it can't be of another one.
        if (row.sort != MISSING && row.sort != sort) {
            return OTHER_SORT;
        }
        if (row.sort == MISSING) {
            return NOTHING;
        }
        int came = 0;
        for (int k = 0; k < n; k++) {
            // Behind a place outside there is none inside, so the first three that don't fit end it.
            if (from > SHEET_ROOM || !row.holds(from + 3 * k, 3)) {
                return OUTSIDE;
            }
            int i = from + 3 * k;
            if (person(row.row[i], row.row[i + 1], row.row[i + 2]) >= 0) {
                came++;
            }
        }
        return came;
    }

    public int taken(int one, int k) {
        if (k < 0 || k >= KINDS) {
            return BAD;
        }
        if (!isOne(one)) {
            return NOTHING;
        }
        return isUnder(now.kind[one], k) ? now.number[one] : OTHER_SORT;
    }

    // ---- what is such

    private boolean isOne(int one) {
        return one >= 0 && one < now.people;
    }

    private static boolean isPlace(int place) {
        return place >= 0 && place < PLACES;
    }

    private static boolean isSheet(int sheet) {
        return sheet >= 0 && sheet < SHEETS;
    }

    private boolean isSettable(int what, int of) {
        if (what == 0 || what == 1) {
            return true;
        }
        if (what == 2) {
            return isPlace(of);
        }
        return what >= 3 && what <= 6 && isOne(of);
    }

    private static int mostOf(int what) {
        switch (what) {
            case 0: return MOST_HOUR;
            case 1: return MOST_SEA;
            case 2: return MOST_FIRM;
            case 3: return NUMBERS - 1;
            case 4: return MOST_DOUBT;
            case 5: return PLACES - 1;
            default: return OVER;
        }
    }

    private int stateOf(int what, int of) {
        switch (what) {
            case 0: return now.hours;
            case 1: return now.sea;
            case 2: return now.firm[of];
            case 3: return now.number[of];
            case 4: return now.doubt[of];
            case 5: return now.at[of];
            default: return now.how[of];
        }
    }

    private int ruledOf(int one, int what) {
        Steps text = texts.numbered(now.rule);
        now.look(one);
        return what == 9 ? now.paceOf(one, text)
            : what == 10 ? now.treadsOf(one, text)
            : now.doubtsOf(one, text) + 1000;
    }

    private static boolean isUnder(int kind, int other) {
        int upper = kind;
        for (int i = 0; i < KINDS && upper != other; i++) {
            upper = kindAbove(upper);
        }
        return upper == other;
    }

    private static int kindAbove(int kind) {
        switch (kind) {
            case CLERK:
            case OLD:
            case YOUNG: return WALKER;
            case CHILD: return CLERK;
            case LETTERS: return OLD;
            default: return NONE;
        }
    }

    // ---- numbers

    private static int bounded(int v, int least, int most) {
        return Math.max(least, Math.min(most, v));
    }

    private static long lowestTerms(int above, int below, int part) {
        int divisor = commonDivisor(above, below);
        if (part < 0 || part > 1 || divisor == 0) {
            return NO;
        }
        return part == 0 ? above / divisor : below / divisor;
    }

    private static int commonDivisor(int a, int b) {
        int greater = a;
        int less = b;
        for (int i = 0; i < 100 && less != 0; i++) {
            int rest = greater % less;
            greater = less;
            less = rest;
        }
        return greater;
    }

    // ---- searches

    private void searchShifts(int n) {
        int ways = 1;
        for (int one = 0; one < now.people; one++) {
            if (now.how[one] == HOME) {
                ways *= START_CHOICES;
            }
        }
        bestOver = NONE;
        // Ways are numbered so that the choice of who is numbered least weighs most: the first best one stays.
        for (int w = 0; w < ways; w++) {
            layPlan(w);
            walkPlan(n);
            int over = thought.howMany(OVER);
            int sunk = thought.howMany(SUNK);
            if (over > bestOver || (over == bestOver && sunk < bestSunk)) {
                bestOver = over;
                bestSunk = sunk;
                bestChoice = planDigits();
            }
        }
    }

    private void layPlan(int way) {
        int rest = way;
        for (int one = now.people - 1; one >= 0; one--) {
            if (now.how[one] == HOME) {
                plan[one] = 1 + rest % START_CHOICES;
                rest /= START_CHOICES;
            } else {
                plan[one] = 0;
            }
        }
    }

    private void walkPlan(int n) {
        thought.become(now);
        for (int h = 0; h <= n; h++) {
            if (h > 0) {
                thought.passHour(texts);
            }
            startPlanned(h);
        }
    }

    private void startPlanned(int h) {
        for (int one = 0; one < thought.people && h < START_CHOICES - 1; one++) {
            if (plan[one] == h + 1) {
                thought.how[one] = ON;
            }
        }
    }

    private int planDigits() {
        int digits = 0;
        for (int one = 0; one < now.people; one++) {
            digits = digits * 10 + plan[one];
        }
        return digits;
    }

    private void searchLeave(int n) {
        thought.become(now);
        thought.passHours(n, texts);
        bestChoice = NONE;
        bestSunk = thought.howMany(SUNK);
        for (int one = 0; one < now.people; one++) {
            if (now.how[one] == ON) {
                thought.become(now);
                thought.how[one] = HOME;
                thought.passHours(n, texts);
                int sunk = thought.howMany(SUNK);
                if (sunk < bestSunk) {
                    bestSunk = sunk;
                    bestChoice = one;
                }
            }
        }
    }

    private int overWhenDrawn(int seed, int n) {
        thought.become(now);
        int z = seed;
        for (int i = 0; i < n; i++) {
            z = z * 1103515245 + 12345;
            thought.sea = (z >>> 9) % 100;
            thought.passHour(texts);
        }
        return thought.howMany(OVER);
    }

    // ---- a walk that was told, read back

    private int refusalOfTold(int sheet, int one) {
        if (!isSheet(sheet) || !isOne(one)) {
            return BAD;
        }
        if (sheets[sheet].sort == MISSING) {
            return NOTHING;
        }
        return sheets[sheet].size > MOST_TOLD ? BAD : 0;
    }

    private int firstOtherwise(Sheet told, int one, int what, int v) {
        thought.become(now);
        supposed(one, what, v);
        for (int i = 0; i < told.size; i++) {
            thought.passHour(texts);
            if (thought.at[one] != told.row[i]) {
                return i;
            }
        }
        return NONE;
    }

    private void supposed(int one, int what, int v) {
        switch (what) {
            case KIND: thought.kind[one] = v; break;
            case NUMBER: thought.number[one] = v; break;
            case DOUBT: thought.doubt[one] = v; break;
            case PLACE: thought.at[one] = v; break;
            case SEA: thought.sea = v; break;
            case TEXT: thought.rule = v; break;
            default: break;
        }
    }

    private long bitsThatFit(Sheet told, int one, int what, int below) {
        long bits = 0L;
        for (int v = 0; v < below; v++) {
            if (firstOtherwise(told, one, what, v) == NONE) {
                bits |= 1L << v;
            }
        }
        return bits;
    }

    private int howManyFit(Sheet told, int one, int what, int below) {
        int fit = 0;
        for (int v = 0; v < below; v++) {
            if (firstOtherwise(told, one, what, v) == NONE) {
                fit++;
            }
        }
        return fit;
    }

    private int leastThatFits(Sheet told, int one, int what, int below) {
        for (int v = 0; v < below; v++) {
            if (firstOtherwise(told, one, what, v) == NONE) {
                return v;
            }
        }
        return NONE;
    }

    /** The way, its people and its rule: as all is, as it is thought, or as an image keeps it. */
    private static final class Walk {
        final int[] firm = new int[PLACES];
        final int[] kind = new int[MOST_PEOPLE];
        final int[] number = new int[MOST_PEOPLE];
        final int[] step = new int[MOST_PEOPLE];
        final int[] doubt = new int[MOST_PEOPLE];
        final int[] at = new int[MOST_PEOPLE];
        final int[] how = new int[MOST_PEOPLE];
        final int[] names = new int[NAMES];
        int people;
        int hours;
        int sea = 10;
        int rule;

        Walk() {
            Arrays.fill(firm, 30);
        }

        void become(Walk other) {
            System.arraycopy(other.firm, 0, firm, 0, PLACES);
            System.arraycopy(other.kind, 0, kind, 0, MOST_PEOPLE);
            System.arraycopy(other.number, 0, number, 0, MOST_PEOPLE);
            System.arraycopy(other.step, 0, step, 0, MOST_PEOPLE);
            System.arraycopy(other.doubt, 0, doubt, 0, MOST_PEOPLE);
            System.arraycopy(other.at, 0, at, 0, MOST_PEOPLE);
            System.arraycopy(other.how, 0, how, 0, MOST_PEOPLE);
            people = other.people;
            hours = other.hours;
            sea = other.sea;
            rule = other.rule;
        }

        int add(int itsKind, int itsNumber, int itsStep) {
            if (people >= MOST_PEOPLE) {
                return FULL;
            }
            int one = people;
            kind[one] = itsKind;
            number[one] = itsNumber;
            step[one] = itsStep;
            doubt[one] = 0;
            at[one] = itsStep > 0 ? 0 : PLACES - 1;
            how[one] = HOME;
            people++;
            return one;
        }

        // ---- counts

        int howMany(int asked) {
            int found = 0;
            for (int one = 0; one < people; one++) {
                if (how[one] == asked) {
                    found++;
                }
            }
            return found;
        }

        boolean isOut(int one) {
            return how[one] == ON || how[one] == SUNK;
        }

        int bitsAt(int place) {
            int bits = 0;
            for (int one = 0; one < people; one++) {
                if (at[one] == place && isOut(one)) {
                    bits |= 1 << one;
                }
            }
            return bits;
        }

        int metBy(int one) {
            int met = 0;
            for (int other = 0; other < people; other++) {
                if (other != one && at[other] == at[one] && isOut(other)) {
                    met++;
                }
            }
            return isOut(one) ? met : 0;
        }

        int leastFirm() {
            int least = 0;
            for (int place = 1; place < PLACES; place++) {
                if (firm[place] < firm[least]) {
                    least = place;
                }
            }
            return least;
        }

        int firmTogether() {
            int sum = 0;
            for (int place = 0; place < PLACES; place++) {
                sum += firm[place];
            }
            return sum;
        }

        int placesWithout() {
            int found = 0;
            for (int place = 0; place < PLACES; place++) {
                if (firm[place] == 0) {
                    found++;
                }
            }
            return found;
        }

        // ---- what is told of one; look() goes ahead, and all three are told of what it saw

        void look(int one) {
            names[DOUBT_NAME] = doubt[one];
            names[FIRM_NAME] = firm[at[one]];
            names[NUMBER_NAME] = number[one];
            names[HOUR_NAME] = hours;
            names[SEA_NAME] = sea;
            names[MET_NAME] = metBy(one);
        }

        int paceOf(int one, Steps text) {
            int walker = bounded(text.valueOf(PACES_PART, names), 0, 99);
            int clerk = doubt[one] > 20 ? walker / 2 : walker;
            int pace;
            switch (kind[one]) {
                case CLERK: pace = clerk; break;
                case OLD: pace = walker - 1; break;
                case CHILD: pace = clerk + number[one] % 3; break;
                case LETTERS: pace = walker - 1 + (names[MET_NAME] > 0 ? 1 : 0); break;
                case YOUNG: pace = 2 * walker; break;
                default: pace = walker; break;
            }
            return bounded(pace, 0, 9);
        }

        int treadsOf(int one, Steps text) {
            int walker = bounded(text.valueOf(TREADS_PART, names), -99, 99);
            int treads;
            switch (kind[one]) {
                case OLD: treads = 2 * walker; break;
                case CHILD: treads = walker / 2; break;
                case LETTERS: treads = 2 * walker + number[one]; break;
                case YOUNG: treads = 0; break;
                default: treads = walker; break;
            }
            return bounded(treads, 0, 99);
        }

        int doubtsOf(int one, Steps text) {
            int walker = bounded(text.valueOf(DOUBTS_PART, names), -99, 99);
            switch (kind[one]) {
                case CLERK: return walker + number[one];
                case OLD: return -walker;
                case CHILD: return hours % 2 == 1 ? walker + number[one] : 0;
                case LETTERS: return -walker - (names[MET_NAME] > 0 ? 10 : 0);
                case YOUNG: return 2 * walker;
                default: return walker;
            }
        }

        // ---- an hour

        void passHours(int n, Texts texts) {
            for (int i = 0; i < n; i++) {
                passHour(texts);
            }
        }

        void passHour(Texts texts) {
            Steps text = texts.numbered(rule);
            for (int one = 0; one < people; one++) {
                if (how[one] == ON) {
                    goOn(one, text);
                }
            }
            int washed = sea / 10;
            for (int place = 0; place < PLACES; place++) {
                firm[place] = Math.max(0, firm[place] - washed);
            }
            hours++;
        }

        private void goOn(int one, Steps text) {
            look(one);
            int pace = paceOf(one, text);
            int treads = treadsOf(one, text);
            // All three are told ahead of the change, as the hour's words have it.
            doubt[one] = bounded(doubt[one] + doubtsOf(one, text), 0, MOST_DOUBT);
            for (int k = 0; k < pace && how[one] == ON; k++) {
                comeToNext(one, treads);
            }
            if (how[one] == ON && doubt[one] > firm[at[one]]) {
                how[one] = SUNK;
            }
        }

        private void comeToNext(int one, int treads) {
            int next = at[one] + step[one];
            if (!isPlace(next)) {
                how[one] = OVER;
                return;
            }
            at[one] = next;
            firm[next] = Math.min(MOST_FIRM, firm[next] + treads);
            for (int other = 0; other < people; other++) {
                if (at[other] == next && how[other] == SUNK) {
                    how[other] = ON;
                }
            }
        }
    }

    /** What a text was read into: three rows of steps over a stack, one behind the other. */
    private static final class Steps {
        static final int PUSH_NUMBER = 0, PUSH_NAME = 1, MINUS = 2, NOT = 3, PLUS = 4, LESS_BY = 5;
        static final int TIMES = 6, BELOW = 7, SAME = 8, AND = 9, OR = 10;
        // A number has four digits at most, so it stands below a step's sort.
        static final int SHIFT = 14, MASK = (1 << SHIFT) - 1;
        // Five may be open, which makes six levels; each leaves five numbers at most: by or, and, <, +, *.
        static final int HIGHEST = 36;

        final int[] code;
        final int[] ends = new int[PARTS];
        final int[] stack = new int[HIGHEST];

        Steps(int[] itsCode, int[] itsEnds) {
            code = itsCode;
            for (int part = 0; part < PARTS && part < itsEnds.length; part++) {
                ends[part] = Math.min(itsEnds[part], itsCode.length);
            }
        }

        int valueOf(int part, int[] names) {
            int height = 0;
            for (int i = part > 0 ? ends[part - 1] : 0; i < ends[part]; i++) {
                int sort = code[i] >> SHIFT;
                int of = code[i] & MASK;
                if (sort == PUSH_NUMBER || sort == PUSH_NAME) {
                    if (height < HIGHEST && (sort == PUSH_NUMBER || of < names.length)) {
                        stack[height] = sort == PUSH_NUMBER ? of : names[of];
                        height++;
                    }
                } else if (sort == MINUS || sort == NOT) {
                    if (height > 0) {
                        int a = stack[height - 1];
                        stack[height - 1] = sort == MINUS ? -a : a == 0 ? 1 : 0;
                    }
                } else if (height > 1) {
                    height--;
                    stack[height - 1] = joined(sort, stack[height - 1], stack[height]);
                }
            }
            return height > 0 ? stack[0] : 0;
        }

        private static int joined(int sort, int a, int b) {
            switch (sort) {
                case PLUS: return a + b;
                case LESS_BY: return a - b;
                case TIMES: return a * b;
                case BELOW: return a < b ? 1 : 0;
                case SAME: return a == b ? 1 : 0;
                case AND: return a != 0 && b != 0 ? 1 : 0;
                default: return a != 0 || b != 0 ? 1 : 0;
            }
        }
    }

    /** All texts that were read; the first is the rule that an object begins with. */
    private static final class Texts {
        final Steps[] all = new Steps[MOST_TEXTS];
        int size;

        Texts() {
            // A step that pushes a number is that number: paces 3 ; treads 5 ; doubts 2 ;
            all[0] = new Steps(new int[] {3, 5, 2}, new int[] {1, 2, 3});
            size = 1;
        }

        boolean isFull() {
            return size >= MOST_TEXTS;
        }

        int add(int[] code, int[] ends) {
            if (isFull()) {
                return FULL;
            }
            all[size] = new Steps(code, ends);
            size++;
            return size - 1;
        }

        Steps numbered(int text) {
            return text >= 0 && text < size ? all[text] : all[0];
        }
    }

    /** The tape, and what reads it: a token is looked at, and goes when it can stand where it is. */
    private static final class Reader {
        static final int END = 0, WRONG = 1, NUMBER_TOKEN = 2, NAME_TOKEN = 3;
        static final int PACES_KEY = 4, TREADS_KEY = 5, DOUBTS_KEY = 6, OR_KEY = 7, AND_KEY = 8, NOT_KEY = 9;

        final int[] tape = new int[TAPE_ROOM];
        // Each step comes of a token of its own, so there are never more than bytes.
        final int[] code = new int[TAPE_ROOM];
        final int[] ends = new int[PARTS];
        int size;
        int codeSize;
        int place;
        // The token that is looked at; a sign is told by its byte, which is above all other tokens.
        int token;
        int start;
        int value;

        boolean add(int letter) {
            if (size >= TAPE_ROOM) {
                return false;
            }
            tape[size] = letter;
            size++;
            return true;
        }

        int[] codeRead() {
            return Arrays.copyOf(code, bounded(codeSize, 0, TAPE_ROOM));
        }

        /** Whether the tape is a text; if not, the fault is where the token that is looked at starts. */
        boolean readText() {
            place = 0;
            codeSize = 0;
            lookAtNext();
            return readPart(PACES_KEY, PACES_PART) && readPart(TREADS_KEY, TREADS_PART)
                && readPart(DOUBTS_KEY, DOUBTS_PART) && token == END;
        }

        private boolean readPart(int key, int part) {
            if (!passes(key) || !readOr(0) || !passes(';')) {
                return false;
            }
            ends[part] = codeSize;
            return true;
        }

        private boolean readOr(int open) {
            if (!readAnd(open)) {
                return false;
            }
            for (int i = 0; i < TAPE_ROOM && token == OR_KEY; i++) {
                lookAtNext();
                if (!readAnd(open)) {
                    return false;
                }
                putStep(Steps.OR, 0);
            }
            return true;
        }

        private boolean readAnd(int open) {
            if (!readNot(open)) {
                return false;
            }
            for (int i = 0; i < TAPE_ROOM && token == AND_KEY; i++) {
                lookAtNext();
                if (!readNot(open)) {
                    return false;
                }
                putStep(Steps.AND, 0);
            }
            return true;
        }

        private boolean readNot(int open) {
            int nots = 0;
            while (token == NOT_KEY && open + nots < MOST_OPEN) {
                lookAtNext();
                nots++;
            }
            // A not too many is left to look at, and can't stand there as a SUM either.
            if (!readCompared(open + nots)) {
                return false;
            }
            putSteps(Steps.NOT, nots);
            return true;
        }

        private boolean readCompared(int open) {
            if (!readSum(open)) {
                return false;
            }
            if (token != '<' && token != '=') {
                return true;
            }
            int step = token == '<' ? Steps.BELOW : Steps.SAME;
            lookAtNext();
            boolean sound = readSum(open);
            putStep(step, 0);
            return sound;
        }

        private boolean readSum(int open) {
            if (!readTerm(open)) {
                return false;
            }
            for (int i = 0; i < TAPE_ROOM && (token == '+' || token == '-'); i++) {
                int step = token == '+' ? Steps.PLUS : Steps.LESS_BY;
                lookAtNext();
                if (!readTerm(open)) {
                    return false;
                }
                putStep(step, 0);
            }
            return true;
        }

        private boolean readTerm(int open) {
            if (!readOne(open)) {
                return false;
            }
            for (int i = 0; i < TAPE_ROOM && token == '*'; i++) {
                lookAtNext();
                if (!readOne(open)) {
                    return false;
                }
                putStep(Steps.TIMES, 0);
            }
            return true;
        }

        private boolean readOne(int open) {
            int minuses = 0;
            while (token == '-' && open + minuses < MOST_OPEN) {
                lookAtNext();
                minuses++;
            }
            if (!readBare(open + minuses)) {
                return false;
            }
            putSteps(Steps.MINUS, minuses);
            return true;
        }

        private boolean readBare(int open) {
            if (token == NUMBER_TOKEN || token == NAME_TOKEN) {
                putStep(token == NUMBER_TOKEN ? Steps.PUSH_NUMBER : Steps.PUSH_NAME, value);
                lookAtNext();
                return true;
            }
            if (token != '(' || open >= MOST_OPEN) {
                return false;
            }
            lookAtNext();
            return readOr(open + 1) && passes(')');
        }

        private void putSteps(int sort, int times) {
            for (int i = 0; i < times; i++) {
                putStep(sort, 0);
            }
        }

        private void putStep(int sort, int of) {
            if (codeSize < TAPE_ROOM) {
                code[codeSize] = (sort << Steps.SHIFT) | of;
                codeSize++;
            }
        }

        // ---- tokens

        private boolean passes(int asked) {
            if (token != asked) {
                return false;
            }
            lookAtNext();
            return true;
        }

        private void lookAtNext() {
            while (place < size && (tape[place] == 32 || tape[place] == 10)) {
                place++;
            }
            start = place;
            if (place >= size) {
                token = END;
            } else if (isDigit(tape[place])) {
                lookAtNumber();
            } else if (isSmall(tape[place])) {
                lookAtWord();
            } else {
                token = isSign(tape[place]) ? tape[place] : WRONG;
                place++;
            }
        }

        private void lookAtNumber() {
            value = 0;
            while (place < size && isDigit(tape[place])) {
                // Past four digits the number is wrong anyway, and must not run over.
                if (place - start < MOST_DIGITS) {
                    value = value * 10 + tape[place] - '0';
                }
                place++;
            }
            token = place - start <= MOST_DIGITS ? NUMBER_TOKEN : WRONG;
        }

        private void lookAtWord() {
            while (place < size && isSmall(tape[place])) {
                place++;
            }
            value = isWord("doubt") ? DOUBT_NAME : isWord("firm") ? FIRM_NAME
                : isWord("number") ? NUMBER_NAME : isWord("hour") ? HOUR_NAME
                : isWord("sea") ? SEA_NAME : isWord("met") ? MET_NAME : NONE;
            token = value != NONE ? NAME_TOKEN
                : isWord("paces") ? PACES_KEY : isWord("treads") ? TREADS_KEY
                : isWord("doubts") ? DOUBTS_KEY : isWord("or") ? OR_KEY
                : isWord("and") ? AND_KEY : isWord("not") ? NOT_KEY : WRONG;
        }

        private boolean isWord(String word) {
            if (place - start != word.length() || place > size) {
                return false;
            }
            for (int i = 0; i < word.length(); i++) {
                if (tape[start + i] != word.charAt(i)) {
                    return false;
                }
            }
            return true;
        }

        private static boolean isDigit(int letter) {
            return letter >= '0' && letter <= '9';
        }

        private static boolean isSmall(int letter) {
            return letter >= 'a' && letter <= 'z';
        }

        private static boolean isSign(int letter) {
            return letter == '(' || letter == ')' || letter == ';' || letter == '+'
                || letter == '-' || letter == '*' || letter == '<' || letter == '=';
        }
    }

    /** A row of numbers of a sort, or missing; its room is made once and used again. */
    private static final class Sheet {
        final int[] row = new int[SHEET_ROOM];
        int sort = MISSING;
        int size;

        void become(int itsSort, int n) {
            sort = itsSort;
            size = itsSort == MISSING ? 0 : bounded(n, 0, SHEET_ROOM);
            Arrays.fill(row, 0);
        }

        boolean has(int i) {
            return i >= 0 && i < size;
        }

        boolean holds(int i, int n) {
            return i >= 0 && n >= 0 && n <= size && i <= size - n;
        }

        void put(int i, int v) {
            if (has(i)) {
                row[i] = sort == BYTES ? (byte) v : sort == SHORTS ? (short) v : v;
            }
        }
    }
}
