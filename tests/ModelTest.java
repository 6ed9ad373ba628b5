import java.util.Random;

/** All promises: long runs of calls, each answer compared with that of the Model. */
public final class ModelTest {
    private static final int RUNS = 1500;
    private static final int CALLS = 512;
    private static final int[] EDGES = {-2, -1, 0, 1, 2, 3, 4, 8, 9, 10, 27, 28, 29, 31, 32, 98, 99, 100,
        Integer.MAX_VALUE, Integer.MIN_VALUE, 1 << 27, 1 << 28, (1 << 28) - 1};

    private static final Due DUE = new Due();
    private static Random lot;
    private static NineLies x;
    private static Model m;
    private static String run;

    public static void main(String[] args) {
        for (int r = 0; r < RUNS && DUE.isAllRight(); r++) {
            lot = new Random(r);
            x = new NineLies();
            m = new Model();
            for (int c = 0; c < CALLS && DUE.isAllRight(); c++) {
                run = "run " + r + ", call " + c + ": ";
                call(r % 4);
            }
        }
        everySure();
        everyBet();
        DUE.end();
    }

    /** Mostly a number from one to another, now and then an edge. */
    private static int some(int from, int to) {
        return lot.nextInt(25) == 0 ? EDGES[lot.nextInt(EDGES.length)] : from + lot.nextInt(to - from + 1);
    }

    private static int anySet() {
        int n = Math.max(0, m.count(0));
        if (lot.nextInt(25) == 0) {
            return EDGES[lot.nextInt(EDGES.length)];
        }
        int set = 0;
        int most = lot.nextInt(5);
        for (int i = 0; i < most && n > 0; i++) {
            set |= 1 << lot.nextInt(n);
        }
        return set;
    }

    /** A set on whose DAYS he may LIE, one behind the other. */
    private static int someSet() {
        if (lot.nextInt(3) == 0) {
            return anySet();
        }
        int set = 0;
        int most = lot.nextInt(Math.max(1, m.count(2) + 2));
        for (int i = 0; i < most; i++) {
            int may = m.may(set);
            for (int skip = lot.nextInt(6); skip > 0 && Integer.bitCount(may) > 1; skip--) {
                may &= may - 1;
            }
            set |= Integer.lowestOneBit(may);
        }
        return set;
    }

    private static void is(String call, int got, int want) {
        DUE.is(run + call, got, want);
    }

    private static void call(int kind) {
        switch (kind == 0 ? lot.nextInt(4) : lot.nextInt(8) == 0 ? lot.nextInt(4) : kind) {
            case 0:
                callDays();
                break;
            case 1:
                callHarm();
                break;
            case 2:
                callWords();
                break;
            default:
                callSheets();
                break;
        }
    }

    private static void callDays() {
        int a = some(0, 1);
        int b = some(0, 99);
        int c = some(0, 99);
        int d = some(0, Math.max(0, m.count(0) - 1));
        int what = some(0, 2);
        switch (lot.nextInt(12)) {
            case 0:
            case 1:
            case 2:
                is("day " + a + " " + b + " " + c, x.day(a, b, c), m.day(a, b, c));
                break;
            case 3:
                int v = what == 0 ? a : b;
                is("alter " + d + " " + what + " " + v, x.alter(d, what, v), m.alter(d, what, v));
                break;
            case 4:
                is("told " + d + " " + what, x.told(d, what), m.told(d, what));
                break;
            case 5:
                is("strike", x.strike(), m.strike());
                break;
            case 6:
            case 7:
                int now = some(0, what == 0 ? 9 : what == 1 ? 3 : 8);
                is("set " + what + " " + now, x.set(what, now), m.set(what, now));
                break;
            case 8:
                type();
                break;
            case 9:
                is("year", x.year(), m.year());
                break;
            case 10:
                what = some(0, 6);
                is("count " + what, x.count(what), m.count(what));
                break;
            default:
                int set = someSet();
                is("may " + set, x.may(set), m.may(set));
                break;
        }
    }

    private static String number() {
        return " ".repeat(lot.nextInt(9) / 8) + "0".repeat(lot.nextInt(9) / 8)
            + (lot.nextInt(60) == 0 ? 100 + lot.nextInt(5) : lot.nextInt(100)) + " ".repeat(lot.nextInt(9) / 8);
    }

    private static String text() {
        StringBuilder text = new StringBuilder();
        int n = lot.nextInt(9) == 0 ? 25 + lot.nextInt(6) : 1 + lot.nextInt(12);
        for (int d = 0; d < n; d++) {
            text.append(d == 0 ? "" : ",").append(lot.nextInt(3) == 0 ? "+" : "-").append(number());
            text.append(lot.nextBoolean() ? "/" + number() : "");
        }
        if (lot.nextInt(5) == 0) {
            int at = lot.nextInt(text.length());
            text.setCharAt(at, "+-,/ 0919x~!.:".charAt(lot.nextInt(14)));
        }
        if (lot.nextInt(9) == 0) {
            text.setLength(lot.nextInt(text.length()));
        }
        return text.toString();
    }

    private static void type() {
        if (lot.nextInt(4) == 0) {
            int n = some(1, 8);
            long w = lot.nextInt(3) == 0 ? lot.nextLong() : 0x2B2031352F39302CL >>> 8 * lot.nextInt(8);
            is("type " + w + " " + n, x.type(w, n), m.type(w, n));
            return;
        }
        String text = text();
        for (int from = 0; from < text.length(); from += 8) {
            String part = text.substring(from, Math.min(from + 8, text.length()));
            long w = Due.packed(part);
            is("type '" + part + "'", x.type(w, part.length()), m.type(w, part.length()));
        }
        if (lot.nextInt(4) != 0) {
            is("year of '" + text + "'", x.year(), m.year());
        }
    }

    private static void callHarm() {
        int set = someSet();
        switch (lot.nextInt(11)) {
            case 0:
                is("lawful " + set, x.lawful(set), m.lawful(set));
                break;
            case 1:
                is("wrong " + set, x.wrong(set), m.wrong(set));
                break;
            case 2:
                is("gain " + set, x.gain(set), m.gain(set));
                break;
            case 3:
                is("trusted " + set, x.trusted(set), m.trusted(set));
                break;
            case 4:
                callTried();
                break;
            case 5:
                int law = some(0, 3);
                if (law < 0 || law > 3 || m.canTry(law, 0)) {
                    is("under " + law, x.under(law), m.under(law));
                }
                break;
            case 6:
            case 7:
                int f = some(0, 8);
                int g = some(0, 8);
                int words = some(1, 99);
                int lies = some(0, Math.max(0, Math.min(words, 99)));
                int part = some(0, 1);
                is("sure " + f + " " + g + " " + lies + " " + words + " " + part, x.sure(f, g, lies, words, part),
                    m.sure(f, g, lies, words, part));
                break;
            case 8:
                int pays = some(0, 5);
                int paysToo = some(0, 5);
                int what = some(0, 1);
                is("bet " + pays + " " + paysToo + " " + what, x.bet(pays, paysToo, what), m.bet(pays, paysToo, what));
                break;
            default:
                callDays();
                break;
        }
    }

    private static void callTried() {
        if (!m.canTry(m.law(), 1)) {
            return;
        }
        is("harm", x.harm(), m.harm());
        is("worst", x.worst(), m.worst());
        is("best", x.best(), m.best());
        is("price", x.price(), m.price());
    }

    private static void callWords() {
        switch (lot.nextInt(9)) {
            case 0:
                is("lots", x.lots(), m.lots());
                break;
            case 1:
                int v = lot.nextInt(3) == 0 ? some(0, 9) : lot.nextInt() & (lot.nextInt(9) == 0 ? -1 : Integer.MAX_VALUE);
                is("seed " + v, x.seed(v), m.seed(v));
                break;
            case 2:
                is("image", x.image(), m.image());
                break;
            case 3:
                is("restore", x.restore(), m.restore());
                break;
            case 4:
            case 5:
            case 6:
                callFits();
                break;
            default:
                callDays();
                break;
        }
    }

    private static void callFits() {
        int all = (1 << 28) - 1;
        int words = lot.nextInt() & lot.nextInt() & all;
        int truths = words & lot.nextInt() & lot.nextInt() & lot.nextInt();
        int lies = words & ~truths & lot.nextInt() & lot.nextInt() & lot.nextInt();
        if (lot.nextInt(12) == 0) {
            truths |= 1 << lot.nextInt(32);
        }
        if (lot.nextInt(12) == 0) {
            lies |= 1 << lot.nextInt(32);
        }
        words = lot.nextInt(20) == 0 ? words | 1 << 28 + lot.nextInt(4) : words;
        int k = some(0, 6);
        int what = some(0, 1);
        String call = words + " " + truths + " " + lies + " " + k;
        is("sets " + call, x.sets(words, truths, lies, k), m.sets(words, truths, lies, k));
        is("surely " + call + " " + what, x.surely(words, truths, lies, k, what), m.surely(words, truths, lies, k, what));
    }

    private static void callSheets() {
        int s = some(0, 3);
        int lane = some(0, 2);
        int from = some(0, 12);
        switch (lot.nextInt(12)) {
            case 0:
                int set = someSet();
                is("film " + set + " " + s + " " + lane + " " + from, x.film(set, s, lane, from), m.film(set, s, lane, from));
                break;
            case 1:
            case 2:
                callRow();
                break;
            case 3:
                int n = some(0, 28);
                is("sheet " + s + " " + lane + " " + n, x.sheet(s, lane, n), m.sheet(s, lane, n));
                break;
            case 4:
                if (lot.nextInt(3) == 0) {
                    is("drop " + s, x.drop(s), m.drop(s));
                }
                break;
            case 5:
            case 6:
                int v = lot.nextInt(3) == 0 ? lot.nextInt() & -232 | lot.nextInt(28) : some(0, 27);
                is("item " + s + " " + lane + " " + from + " " + v, x.item(s, lane, from, v), m.item(s, lane, from, v));
                break;
            case 7:
            case 8:
                int to = some(0, 3);
                int behind = some(0, 12);
                int many = some(0, 12);
                is("copy " + s + " " + from + " " + to + " " + behind + " " + many, x.copy(s, from, to, behind, many),
                    m.copy(s, from, to, behind, many));
                break;
            case 9:
                int days = some(0, 9);
                judge(s, lane, from, days);
                break;
            default:
                callDays();
                break;
        }
    }

    private static void judge(int s, int lane, int from, int n) {
        is("judged " + s + " " + lane + " " + from + " " + n, x.judged(s, lane, from, n), m.judged(s, lane, from, n));
    }

    /** Writes a set's DAYS on a SHEET and has them judged, one by one too. */
    private static void callRow() {
        int s = lot.nextInt(4);
        int lane = lot.nextInt(3);
        int from = lot.nextInt(10);
        int set = someSet();
        int n = 0;
        for (int d = 0; d < 28; d++) {
            if ((set & 1 << d) != 0) {
                is("item", x.item(s, lane, from + n, d), m.item(s, lane, from + n, d));
                n++;
            }
        }
        judge(s, lane, from, n);
        judge(s, lane, from + lot.nextInt(n + 1), lot.nextInt(n + 1));
        judge(s, lane, lot.nextInt(28), 1);
    }

    private static void everySure() {
        x = new NineLies();
        m = new Model();
        for (int i = 0; i < 81; i++) {
            for (int words = 1; words < 100; words += 7) {
                for (int lies = 0; lies <= words; lies += 3) {
                    for (int part = 0; part < 2; part++) {
                        DUE.is("sure " + i / 9 + " " + i % 9 + " " + lies + " " + words + " " + part,
                            x.sure(i / 9, i % 9, lies, words, part), m.sure(i / 9, i % 9, lies, words, part));
                    }
                }
            }
        }
    }

    private static void everyBet() {
        for (int pays = 0; pays < 100; pays++) {
            for (int paysToo = 0; paysToo < 100; paysToo += pays < 4 ? 1 : 11) {
                for (int what = 0; what < 2; what++) {
                    DUE.is("bet " + pays + " " + paysToo + " " + what, x.bet(pays, paysToo, what), m.bet(pays, paysToo, what));
                    DUE.is("bet " + paysToo + " " + pays + " " + what, x.bet(paysToo, pays, what), m.bet(paysToo, pays, what));
                }
            }
        }
    }
}
