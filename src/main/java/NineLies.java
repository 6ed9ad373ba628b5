/**
 * Nine lies to the fool: a court whose jester may tell so many LIES, as NEWS, without blame.
 * What each call answers stands in the document, as numbered promises; words in capitals are the document's.
 */
public final class NineLies {
    public static final int BAD = -1, NOT = -2, FULL = -3, NONE = -4, NULL = -11, CAST = -12, INDEX = -13, SIZE = -14;

    private static final int LOWER = 100000000;
    private static final int FINE = 0;

    private static final int MOST_DAYS = 28;
    private static final int MOST_LIES = 9;
    private static final int MOST_TRUST = 8;
    private static final int MOST_BYTES = 200;
    private static final int MOST_ITEMS = 28;
    private static final int MOST_STAKE = 99;
    private static final int SHEETS = 4;
    private static final int LANES = 3;
    private static final int WEEK = 7;

    private static final int NEWS = 0;
    private static final int WORTH = 1;
    private static final int COST = 2;
    private static final int THINGS = 3;

    private static final int LIES = 0;
    private static final int LAW = 1;
    private static final int TRUST = 2;
    private static final int DRAW = 3;
    private static final int HIGHEST_DRAW = 2147483647;

    private static final int FREE = 0;
    private static final int SUNDAYS = 1;
    private static final int APART = 2;
    private static final int WEEKS = 3;

    private final Year now = new Year();
    private final Year kept = new Year();
    private boolean hasImage = false;
    private final Tape tape = new Tape();
    private final Days read = new Days();
    private final Harm harms = new Harm();
    private final Words guesses = new Words();
    private final Sheet[] sheets = new Sheet[SHEETS];

    public NineLies() {
        for (int i = 0; i < sheets.length; i++) {
            sheets[i] = new Sheet();
        }
    }

    // ---- 1 days, laws

    public int day(int news, int worth, int cost) {
        if (!isThing(NEWS, news) || !isThing(WORTH, worth) || !isThing(COST, cost)) {
            return BAD;
        }
        return now.days.add(news, worth, cost);
    }

    public int alter(int day, int what, int v) {
        if (!now.days.has(day) || !isThing(what, v)) {
            return BAD;
        }
        return now.days.change(day, what, v);
    }

    public int told(int day, int what) {
        if (!now.days.has(day) || !isWithin(what, NEWS, COST)) {
            return BAD;
        }
        return now.days.tell(day, what);
    }

    public int strike() {
        return now.days.removeLast();
    }

    public int set(int what, int v) {
        return what != DRAW && isSetting(what, v) ? now.change(what, v) : BAD;
    }

    public int type(long w, int n) {
        if (!isWithin(n, 1, 8) || !areTextBytes(w, n)) {
            return BAD;
        }
        return tape.append(w, n);
    }

    public int year() {
        int answer = tape.readInto(read);
        if (answer >= 0) {
            now.days.become(read);
        }
        tape.empty();
        return answer;
    }

    public int count(int what) {
        switch (what) {
            case 0:
                return now.days.many;
            case 1:
                return now.days.manyWithNews();
            case 2:
                return now.tell(LIES);
            case 3:
                return now.tell(LAW);
            case 4:
                return now.tell(TRUST);
            case 5:
                return now.days.sumOf(WORTH, 1);
            case 6:
                return now.days.sumOf(COST, 0);
            default:
                return BAD;
        }
    }

    public int may(int set) {
        return now.days.hasAll(set) ? now.openBehind(set) : BAD;
    }

    // ---- 2 harm, trust

    public int lawful(int set) {
        int refusal = refusalOf(set);
        if (refusal == BAD) {
            return BAD;
        }
        return refusal == FINE ? 1 : 0;
    }

    public int wrong(int set) {
        return now.days.hasAll(set) ? now.firstWrong(set) : BAD;
    }

    public int gain(int set) {
        int refusal = refusalOf(set);
        return refusal == FINE ? now.gainOf(set) : refusal - LOWER;
    }

    public int trusted(int set) {
        int refusal = refusalOf(set);
        return refusal == FINE ? now.trustedBy(set) : refusal;
    }

    public int harm() {
        return harmBy(now.tell(LAW), now.tell(LIES), now.tell(TRUST));
    }

    public int worst() {
        return harms.worstSet(now.days, now.tell(LAW), now.tell(LIES), now.tell(TRUST));
    }

    public int best() {
        int best = 0;
        int most = harmBy(now.tell(LAW), now.tell(LIES), 0);
        for (int trust = 1; trust <= MOST_TRUST; trust++) {
            int harm = harmBy(now.tell(LAW), now.tell(LIES), trust);
            if (harm > most) {
                most = harm;
                best = trust;
            }
        }
        return best;
    }

    public int price() {
        if (now.tell(LIES) >= MOST_LIES) {
            return NOT - LOWER;
        }
        int asItIs = harmBy(now.tell(LAW), now.tell(LIES), now.tell(TRUST));
        return asItIs - harmBy(now.tell(LAW), now.tell(LIES) + 1, now.tell(TRUST));
    }

    public int under(int law) {
        return isSetting(LAW, law) ? harmBy(law, now.tell(LIES), now.tell(TRUST)) : BAD - LOWER;
    }

    public int sure(int f, int g, int lies, int words, int part) {
        if (!isWithin(f, 0, 8) || !isWithin(g, 0, 8) || !isWithin(lies, 0, 99)
                || !isWithin(words, 1, 99) || lies > words || !isWithin(part, 0, 1)) {
            return BAD;
        }
        int above = lies * f;
        int below = above + (words - lies) * g;
        int divisor = greatestDivisor(above, below);
        if (below <= 0 || divisor <= 0) {
            return NONE;
        }
        return part == 0 ? above / divisor : below / divisor;
    }

    public int bet(int x, int y, int what) {
        if (!isWithin(x, 0, 99) || !isWithin(y, 0, 99) || !isWithin(what, 0, 1)) {
            return BAD;
        }
        for (int both = 2; both <= 2 * MOST_STAKE; both++) {
            int a = leastSureStake(x, y, both);
            if (a != NONE) {
                return what == 0 ? a : both - a;
            }
        }
        return NONE;
    }

    // ---- 3 words

    public int sets(int words, int truths, int lies, int k) {
        if (!areWords(words, truths, lies) || !isWithin(k, 0, MOST_LIES)) {
            return BAD;
        }
        return guesses.manyFit(now.tell(LAW), words, truths, lies, k);
    }

    public int surely(int words, int truths, int lies, int k, int what) {
        if (!areWords(words, truths, lies) || !isWithin(k, 0, MOST_LIES) || !isWithin(what, 0, 1)) {
            return BAD;
        }
        int all = guesses.manyFit(now.tell(LAW), words, truths, lies, k);
        if (all == 0) {
            return NONE;
        }
        int due = what == 0 ? all : 0;
        int surely = 0;
        for (int d = 0; d < MOST_DAYS; d++) {
            int bit = 1 << d;
            if ((words & bit) != 0 && guesses.manyFit(now.tell(LAW), words, truths, lies | bit, k) == due) {
                surely |= bit;
            }
        }
        return surely;
    }

    public int lots() {
        return now.drawLots();
    }

    public int seed(int v) {
        return isSetting(DRAW, v) ? now.change(DRAW, v) : BAD;
    }

    public int image() {
        kept.become(now);
        hasImage = true;
        return 1;
    }

    public int restore() {
        if (!hasImage) {
            return NONE;
        }
        now.become(kept);
        return 1;
    }

    // ---- 4 sheets

    public int judged(int sheet, int lane, int from, int n) {
        Sheet s = findSheet(sheet);
        if (s == null || !isLane(lane) || !isWithin(n, 0, MOST_LIES)) {
            return BAD - LOWER;
        }
        int refusal = s.refusalOf(lane, from, n);
        if (refusal != FINE) {
            return refusal - LOWER;
        }
        int set = s.readDays(from, n, now.days.many);
        if (set == NOT || refusalOf(set) != FINE) {
            return NOT - LOWER;
        }
        return now.gainOf(set);
    }

    public int film(int set, int sheet, int lane, int from) {
        Sheet s = findSheet(sheet);
        if (s == null || !isLane(lane)) {
            return BAD;
        }
        int refusal = refusalOf(set);
        if (refusal != FINE) {
            return refusal;
        }
        refusal = s.refusalOf(lane, from, now.days.many);
        if (refusal != FINE) {
            return refusal;
        }
        for (int d = 0; d < now.days.many; d++) {
            s.change(from + d, now.courtHas(set, d));
        }
        return now.days.many;
    }

    public int sheet(int sheet, int lane, int n) {
        Sheet s = findSheet(sheet);
        if (s == null || !isLane(lane) || n > MOST_ITEMS) {
            return BAD;
        }
        return n < 0 ? SIZE : s.hold(lane, n);
    }

    public int drop(int sheet) {
        Sheet s = findSheet(sheet);
        if (s == null) {
            return BAD;
        }
        return s.isNothing() ? NULL : s.holdNothing();
    }

    public int item(int sheet, int lane, int i, int v) {
        Sheet s = findSheet(sheet);
        if (s == null || !isLane(lane)) {
            return BAD;
        }
        int refusal = s.refusalOf(lane, i, 1);
        if (refusal != FINE) {
            return refusal;
        }
        s.change(i, v);
        return 1;
    }

    public int copy(int from, int i, int to, int j, int n) {
        Sheet source = findSheet(from);
        Sheet target = findSheet(to);
        if (source == null || target == null) {
            return BAD;
        }
        if (source.isNothing() || target.isNothing()) {
            return NULL;
        }
        if (source.lane != target.lane) {
            return CAST;
        }
        if (!source.covers(i, n) || !target.covers(j, n)) {
            return INDEX;
        }
        System.arraycopy(source.items, i, target.items, j, n);
        return n;
    }

    // ---- what the calls above share

    private Sheet findSheet(int sheet) {
        return sheet >= 0 && sheet < sheets.length ? sheets[sheet] : null;
    }

    private int refusalOf(int set) {
        if (!now.days.hasAll(set)) {
            return BAD;
        }
        return now.firstWrong(set) == NONE ? FINE : NOT;
    }

    private int harmBy(int law, int lies, int trust) {
        return harms.reckon(now.days, law, lies, trust);
    }

    private static boolean isWithin(int v, int least, int most) {
        return v >= least && v <= most;
    }

    private static boolean isLane(int lane) {
        return isWithin(lane, 0, LANES - 1);
    }

    private static boolean isThing(int what, int v) {
        return isWithin(what, NEWS, COST) && isWithin(v, 0, what == NEWS ? 1 : 99);
    }

    private static boolean isSetting(int what, int v) {
        switch (what) {
            case LIES:
                return isWithin(v, 0, MOST_LIES);
            case LAW:
                return isWithin(v, FREE, WEEKS);
            case TRUST:
                return isWithin(v, 0, MOST_TRUST);
            case DRAW:
                return isWithin(v, 0, HIGHEST_DRAW);
            default:
                return false;
        }
    }

    private static boolean areWords(int words, int truths, int lies) {
        return (words >> MOST_DAYS) == 0 && (truths & ~words) == 0 && (lies & ~words) == 0 && (truths & lies) == 0;
    }

    private static boolean areTextBytes(long w, int n) {
        for (int i = 0; i < n; i++) {
            if (!isWithin(byteFromLowest(w, i), 32, 126)) {
                return false;
            }
        }
        return true;
    }

    private static int byteFromLowest(long w, int i) {
        return (int) (w >>> (8 * i)) & 255;
    }

    private static boolean holds(int set, int day) {
        return (set >> day & 1) != 0;
    }

    private static int at(int[] row, int i) {
        return i >= 0 && i < row.length ? row[i] : 0;
    }

    private static int put(int[] row, int i, int v) {
        int was = at(row, i);
        if (i >= 0 && i < row.length) {
            row[i] = v;
        }
        return was;
    }

    private static int greatestDivisor(int a, int b) {
        int larger = b;
        int smaller = a;
        // Euclid ends by itself; the counter only shows that it does.
        for (int i = 0; i < 64 && smaller > 0; i++) {
            int rest = larger % smaller;
            larger = smaller;
            smaller = rest;
        }
        return larger;
    }

    private static int leastSureStake(int x, int y, int both) {
        for (int a = Math.max(1, both - MOST_STAKE); a <= Math.min(MOST_STAKE, both - 1); a++) {
            int b = both - a;
            if (x * a - b > 0 && y * b - a > 0) {
                return a;
            }
        }
        return NONE;
    }

    private static boolean isOpen(int law, int day) {
        return law != SUNDAYS || day % WEEK != WEEK - 1;
    }

    // What a LIE closes is one row of DAYS just behind it, so that the end of that row tells all.
    private static int openAgain(int law, int day) {
        switch (law) {
            case APART:
                return day + 2;
            case WEEKS:
                return Math.max(day + 2, (day / WEEK + 1) * WEEK);
            default:
                return day + 1;
        }
    }

    /** DAYS as they came, and what each has. */
    private static final class Days {
        private final int[] cells = new int[MOST_DAYS * THINGS];
        private int many = 0;

        boolean has(int day) {
            return day >= 0 && day < many;
        }

        boolean hasAll(int set) {
            return set >>> many == 0;
        }

        boolean isFull() {
            return many >= MOST_DAYS;
        }

        int tell(int day, int what) {
            return at(cells, day * THINGS + what);
        }

        int change(int day, int what, int v) {
            return put(cells, day * THINGS + what, v);
        }

        int add(int news, int worth, int cost) {
            if (isFull()) {
                return FULL;
            }
            change(many, NEWS, news);
            change(many, WORTH, worth);
            change(many, COST, cost);
            many++;
            return many - 1;
        }

        int removeLast() {
            if (many <= 0) {
                return NONE;
            }
            many--;
            return many;
        }

        void empty() {
            many = 0;
        }

        void become(Days other) {
            System.arraycopy(other.cells, 0, cells, 0, cells.length);
            many = other.many;
        }

        boolean hasNews(int day) {
            return at(cells, day * THINGS + NEWS) == 1;
        }

        int manyWithNews() {
            int sum = 0;
            for (int d = 0; d < many; d++) {
                sum += tell(d, NEWS);
            }
            return sum;
        }

        /** What DAYS with NEWS (1) or without (0) have of a thing together. */
        int sumOf(int what, int news) {
            int sum = 0;
            for (int d = 0; d < many; d++) {
                sum += tell(d, NEWS) == news ? tell(d, what) : 0;
            }
            return sum;
        }

        /** Whether THE COURT TRUSTS a WORD on a DAY on whose morning so many LIES are left. */
        boolean isTrusted(int day, int left, int trust) {
            return 8 * left <= trust * (many - day);
        }

        /** What THE COURT has on a DAY on whose morning so many LIES are left. */
        int courtHas(int day, boolean lies, int left, int trust) {
            if (!isTrusted(day, left, trust)) {
                return 0;
            }
            if (hasNews(day)) {
                return tell(day, WORTH);
            }
            return lies ? -tell(day, COST) : 0;
        }
    }

    /** All that an IMAGE keeps: DAYS, LIES, THE LAW, TRUST, THE DRAW. */
    private static final class Year {
        private final Days days = new Days();
        private final int[] settings = {MOST_LIES, FREE, 4, 1};

        int tell(int what) {
            return at(settings, what);
        }

        int change(int what, int v) {
            return put(settings, what, v);
        }

        void become(Year other) {
            days.become(other.days);
            System.arraycopy(other.settings, 0, settings, 0, settings.length);
        }

        boolean mayLie(int day, int from) {
            return day >= from && !days.hasNews(day) && isOpen(tell(LAW), day);
        }

        int openBehind(int set) {
            int from = 0;
            for (int d = 0; d < days.many; d++) {
                if (holds(set, d)) {
                    from = openAgain(tell(LAW), d);
                }
            }
            int open = 0;
            for (int d = from; d < days.many; d++) {
                open |= mayLie(d, from) ? 1 << d : 0;
            }
            return open;
        }

        int firstWrong(int set) {
            int from = 0;
            for (int d = 0; d < days.many; d++) {
                if (holds(set, d)) {
                    if (leftOn(set, d) <= 0 || !mayLie(d, from)) {
                        return d;
                    }
                    from = openAgain(tell(LAW), d);
                }
            }
            return NONE;
        }

        /** LIES left on the morning of a DAY, by a set. */
        int leftOn(int set, int day) {
            return tell(LIES) - Integer.bitCount(set & (1 << day) - 1);
        }

        int courtHas(int set, int day) {
            return days.courtHas(day, holds(set, day), leftOn(set, day), tell(TRUST));
        }

        int gainOf(int set) {
            int sum = 0;
            for (int d = 0; d < days.many; d++) {
                sum += courtHas(set, d);
            }
            return sum;
        }

        int trustedBy(int set) {
            int trusted = 0;
            for (int d = 0; d < days.many; d++) {
                boolean isWord = holds(set, d) || days.hasNews(d);
                if (isWord && days.isTrusted(d, leftOn(set, d), tell(TRUST))) {
                    trusted |= 1 << d;
                }
            }
            return trusted;
        }

        int drawLots() {
            int set = 0;
            int from = 0;
            for (int d = 0; d < days.many; d++) {
                change(DRAW, tell(DRAW) * 1103515245 + 12345 & HIGHEST_DRAW);
                int daysLeft = days.many - d;
                if (daysLeft > 0 && tell(DRAW) / 65536 % daysLeft < leftOn(set, d) && mayLie(d, from)) {
                    set |= 1 << d;
                    from = openAgain(tell(LAW), d);
                }
            }
            return set;
        }
    }

    /** A number for each DAY (and the end) and each number of LIES. */
    private static final class Table {
        private final int[] cells = new int[(MOST_DAYS + 1) * (MOST_LIES + 1)];

        int tell(int day, int lies) {
            return at(cells, day * (MOST_LIES + 1) + lies);
        }

        void change(int day, int lies, int v) {
            put(cells, day * (MOST_LIES + 1) + lies, v);
        }
    }

    /** HARM: the least that THE COURT can have from a DAY on, by how many LIES are left on its morning. */
    private static final class Harm {
        private static final int NEVER = 2147483647;

        private final Table least = new Table();

        int reckon(Days days, int law, int lies, int trust) {
            for (int left = 0; left <= lies && left <= MOST_LIES; left++) {
                least.change(days.many, left, 0);
            }
            for (int d = days.many - 1; d >= 0; d--) {
                for (int left = 0; left <= lies && left <= MOST_LIES; left++) {
                    least.change(d, left, Math.min(silent(days, d, left, trust), lying(days, law, d, left, trust)));
                }
            }
            return least.tell(0, lies);
        }

        int worstSet(Days days, int law, int lies, int trust) {
            reckon(days, law, lies, trust);
            int set = 0;
            int from = 0;
            int left = lies;
            for (int d = 0; d < days.many; d++) {
                if (d >= from && silent(days, d, left, trust) > least.tell(d, left)) {
                    set |= 1 << d;
                    left--;
                    from = openAgain(law, d);
                }
            }
            return set;
        }

        private int silent(Days days, int day, int left, int trust) {
            return days.courtHas(day, false, left, trust) + least.tell(day + 1, left);
        }

        private int lying(Days days, int law, int day, int left, int trust) {
            if (left <= 0 || days.hasNews(day) || !isOpen(law, day)) {
                return NEVER;
            }
            int sum = days.courtHas(day, true, left, trust);
            int again = Math.min(openAgain(law, day), days.many);
            for (int d = day + 1; d < again; d++) {
                sum += days.courtHas(d, false, left - 1, trust);
            }
            return sum + least.tell(again, left - 1);
        }
    }

    /** How many SETS of so many LIES fit from a DAY on, by what is known of WORDS. */
    private static final class Words {
        private final Table fits = new Table();

        int manyFit(int law, int words, int truths, int lies, int k) {
            int open = words & ~truths;
            for (int j = 0; j <= k && j <= MOST_LIES; j++) {
                fits.change(MOST_DAYS, j, j == 0 ? 1 : 0);
            }
            for (int d = MOST_DAYS - 1; d >= 0; d--) {
                for (int j = 0; j <= k && j <= MOST_LIES; j++) {
                    int silent = holds(lies, d) ? 0 : fits.tell(d + 1, j);
                    int lying = holds(open, d) ? fitBehind(law, lies, d, j) : 0;
                    fits.change(d, j, silent + lying);
                }
            }
            return fits.tell(0, k);
        }

        /** How many SETS of j fit of which this DAY is the first. */
        private int fitBehind(int law, int lies, int day, int j) {
            if (j <= 0 || !isOpen(law, day)) {
                return 0;
            }
            int again = Math.min(openAgain(law, day), MOST_DAYS);
            for (int d = day + 1; d < again; d++) {
                if (holds(lies, d)) {
                    return 0;
                }
            }
            return fits.tell(again, j - 1);
        }
    }

    /** THE TAPE, and how a YEAR is read from it. */
    private static final class Tape {
        private static final int END = -1;
        private static final int BLANK = ' ';

        private final int[] bytes = new int[MOST_BYTES];
        private int many = 0;
        private int place = 0;

        int append(long w, int n) {
            if (n > MOST_BYTES - many) {
                return FULL;
            }
            for (int i = n - 1; i >= 0; i--) {
                put(bytes, many, byteFromLowest(w, i));
                many++;
            }
            return many;
        }

        void empty() {
            many = 0;
        }

        /** How many DAYS the TEXT has, which are told to days, or its FAULT. */
        int readInto(Days days) {
            place = 0;
            days.empty();
            for (int d = 0; d < MOST_DAYS; d++) {
                int fault = readDay(days);
                if (fault != FINE) {
                    return fault;
                }
                int next = nextByte();
                if (next == END) {
                    return days.many;
                }
                if (next != ',' || days.isFull()) {
                    return faultAt(place);
                }
                place++;
            }
            return faultAt(place);
        }

        private int readDay(Days days) {
            int sign = nextByte();
            if (sign != '+' && sign != '-') {
                return faultAt(place);
            }
            place++;
            int worth = readNumber();
            if (worth < 0) {
                return worth;
            }
            int cost = 0;
            if (nextByte() == '/') {
                place++;
                cost = readNumber();
            }
            if (cost < 0) {
                return cost;
            }
            days.add(sign == '+' ? 1 : 0, worth, cost);
            return FINE;
        }

        /** A number, or a FAULT (which is below 0). */
        private int readNumber() {
            int first = nextByte();
            if (!isDigit(first)) {
                return faultAt(place);
            }
            int start = place;
            int number = 0;
            for (; place < many && isDigit(at(bytes, place)); place++) {
                // kept at 100, which is too many already, so that long numbers don't wrap around
                number = Math.min(100, number * 10 + at(bytes, place) - '0');
            }
            return number > 99 ? faultAt(start) : number;
        }

        /** The next byte that is no blank, where the reading stands then, or END. */
        private int nextByte() {
            for (; place < many; place++) {
                if (at(bytes, place) != BLANK) {
                    return at(bytes, place);
                }
            }
            return END;
        }

        private static boolean isDigit(int sign) {
            return sign >= '0' && sign <= '9';
        }

        private static int faultAt(int place) {
            return -20 - place;
        }
    }

    /** A SHEET: nothing, or a row of a LANE, whose items are held as its LANE leaves them. */
    private static final class Sheet {
        private static final int NOTHING = -1;
        private static final int BYTES = 0;
        private static final int SHORTS = 1;

        private final int[] items = new int[MOST_ITEMS];
        private int lane = NOTHING;
        private int many = 0;

        boolean isNothing() {
            return lane == NOTHING;
        }

        int hold(int newLane, int n) {
            for (int i = 0; i < items.length; i++) {
                items[i] = 0;
            }
            lane = newLane;
            many = n;
            return n;
        }

        int holdNothing() {
            int had = many;
            lane = NOTHING;
            many = 0;
            return had;
        }

        boolean covers(int from, int n) {
            return n >= 0 && from >= 0 && from <= many && n <= many - from;
        }

        /** Why n items from one on can't be taken as a row of a LANE: NULL, CAST, INDEX, or FINE. */
        int refusalOf(int asLane, int from, int n) {
            if (isNothing()) {
                return NULL;
            }
            if (lane != asLane) {
                return CAST;
            }
            return covers(from, n) ? FINE : INDEX;
        }

        void change(int i, int v) {
            put(items, i, narrow(v));
        }

        private int narrow(int v) {
            if (lane == BYTES) {
                return (byte) v;
            }
            return lane == SHORTS ? (short) v : v;
        }

        /** The set that n items tell as rising DAYS, or NOT. */
        int readDays(int from, int n, int days) {
            int set = 0;
            int last = -1;
            for (int i = from; i < from + n; i++) {
                int day = at(items, i);
                if (day <= last || day >= days) {
                    return NOT;
                }
                set |= 1 << day;
                last = day;
            }
            return set;
        }
    }
}
