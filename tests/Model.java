import java.util.ArrayList;
import java.util.List;

/**
 * A second, slow writing of the document, for comparison: it tries all sets one by one, holds SHEETS as
 * Java arrays, and lets the machine throw. Its methods bear the names of the document's.
 */
final class Model {
    private List<int[]> days = new ArrayList<>();
    private int[] settings = {9, 0, 4};
    private long draw = 1;
    private final StringBuilder tape = new StringBuilder();
    private final Object[] sheets = new Object[4];
    private List<int[]> keptDays = null;
    private int[] keptSettings = null;
    private long keptDraw = 0;

    private int least;
    private int worst;
    private int tried;

    private static boolean in(int v, int from, int to) {
        return from <= v && v <= to;
    }

    private static boolean bit(int set, int d) {
        return (set & 1 << d) != 0;
    }

    int day(int news, int worth, int cost) {
        if (!in(news, 0, 1) || !in(worth, 0, 99) || !in(cost, 0, 99)) {
            return -1;
        }
        if (days.size() == 28) {
            return -3;
        }
        days.add(new int[] {news, worth, cost});
        return days.size() - 1;
    }

    int alter(int day, int what, int v) {
        if (!in(day, 0, days.size() - 1) || !in(what, 0, 2) || !in(v, 0, what == 0 ? 1 : 99)) {
            return -1;
        }
        int was = days.get(day)[what];
        days.get(day)[what] = v;
        return was;
    }

    int told(int day, int what) {
        return in(day, 0, days.size() - 1) && in(what, 0, 2) ? days.get(day)[what] : -1;
    }

    int strike() {
        if (days.isEmpty()) {
            return -4;
        }
        days.remove(days.size() - 1);
        return days.size();
    }

    int set(int what, int v) {
        int[] most = {9, 3, 8};
        if (!in(what, 0, 2) || !in(v, 0, most[what])) {
            return -1;
        }
        int was = settings[what];
        settings[what] = v;
        return was;
    }

    int type(long w, int n) {
        if (!in(n, 1, 8)) {
            return -1;
        }
        StringBuilder text = new StringBuilder();
        for (int i = 0; i < n; i++) {
            text.insert(0, (char) (w & 255));
            w >>= 8;
        }
        for (int i = 0; i < n; i++) {
            if (!in(text.charAt(i), 32, 126)) {
                return -1;
            }
        }
        if (tape.length() + n > 200) {
            return -3;
        }
        tape.append(text);
        return tape.length();
    }

    /** States: 0 wants a sign, 1 wants a WORTH, 2 in it, 3 behind it, 4 wants a COST, 5 in it, 6 behind it. */
    int year() {
        String text = tape.toString();
        tape.setLength(0);
        List<int[]> read = new ArrayList<>();
        int state = 0;
        int start = 0;
        for (int i = 0; i < text.length(); i++) {
            char c = text.charAt(i);
            int[] day = read.isEmpty() ? null : read.get(read.size() - 1);
            if (c == ' ') {
                state = state == 2 ? 3 : state == 5 ? 6 : state;
            } else if (state == 0 && (c == '+' || c == '-')) {
                read.add(new int[] {c == '+' ? 1 : 0, 0, 0});
                state = 1;
            } else if (in(c, '0', '9') && (state == 1 || state == 2 || state == 4 || state == 5)) {
                start = state == 1 || state == 4 ? i : start;
                state = state < 3 ? 2 : 5;
                int what = state == 2 ? 1 : 2;
                day[what] = day[what] * 10 + c - '0';
                if (day[what] > 99) {
                    return -20 - start;
                }
            } else if (c == '/' && (state == 2 || state == 3)) {
                state = 4;
            } else if (c == ',' && (state == 2 || state == 3 || state == 5 || state == 6) && read.size() < 28) {
                state = 0;
            } else {
                return -20 - i;
            }
        }
        if (state == 0 || state == 1 || state == 4) {
            return -20 - text.length();
        }
        days = read;
        return days.size();
    }

    int count(int what) {
        int[] sums = new int[3];
        for (int[] day : days) {
            sums[0] += day[0];
            sums[1] += day[0] == 1 ? day[1] : 0;
            sums[2] += day[0] == 0 ? day[2] : 0;
        }
        int[] all = {days.size(), sums[0], settings[0], settings[1], settings[2], sums[1], sums[2]};
        return in(what, 0, 6) ? all[what] : -1;
    }

    /** Whether a LAW lets him LIE on a DAY, if he LIED on those of a set ahead of it; NEWS not looked at. */
    private static boolean lets(int law, int set, int day) {
        for (int d = 0; d < day; d++) {
            if (bit(set, d) && (law == 2 || law == 3) && d == day - 1 || bit(set, d) && law == 3 && d / 7 == day / 7) {
                return false;
            }
        }
        return law != 1 || day != 6 && day != 13 && day != 20 && day != 27;
    }

    private boolean isSet(int set) {
        return in(set, 0, (1 << days.size()) - 1);
    }

    int may(int set) {
        if (!isSet(set)) {
            return -1;
        }
        int may = 0;
        for (int d = 0; d < days.size(); d++) {
            if (1 << d > set && days.get(d)[0] == 0 && lets(settings[1], set, d)) {
                may += 1 << d;
            }
        }
        return may;
    }

    int wrong(int set) {
        if (!isSet(set)) {
            return -1;
        }
        int told = 0;
        for (int d = 0; d < days.size(); d++) {
            if (bit(set, d)) {
                if (days.get(d)[0] == 1 || !lets(settings[1], set, d) || told == settings[0]) {
                    return d;
                }
                told++;
            }
        }
        return -4;
    }

    int lawful(int set) {
        int wrong = wrong(set);
        return wrong == -1 ? -1 : wrong == -4 ? 1 : 0;
    }

    /** What THE COURT has on each DAY, or whether it TRUSTS a WORD on it. */
    private int[] year(int set, int lies, int trust, boolean trusts) {
        int[] has = new int[days.size()];
        int left = lies;
        for (int d = 0; d < has.length; d++) {
            int[] day = days.get(d);
            if (8 * left <= trust * (has.length - d) && (day[0] == 1 || bit(set, d))) {
                has[d] = trusts ? 1 : day[0] == 1 ? day[1] : -day[2];
            }
            left -= bit(set, d) ? 1 : 0;
        }
        return has;
    }

    private int sum(int set, int lies, int trust) {
        int sum = 0;
        for (int has : year(set, lies, trust, false)) {
            sum += has;
        }
        return sum;
    }

    int gain(int set) {
        int lawful = lawful(set);
        return lawful == 1 ? sum(set, settings[0], settings[2]) : -100000000 + (lawful == 0 ? -2 : -1);
    }

    int trusted(int set) {
        int lawful = lawful(set);
        if (lawful != 1) {
            return lawful == 0 ? -2 : -1;
        }
        int[] trusts = year(set, settings[0], settings[2], true);
        int all = 0;
        for (int d = 0; d < trusts.length; d++) {
            all += trusts[d] << d;
        }
        return all;
    }

    /** Tries each LAWFUL set that goes on from a set; false if they are too many. */
    private boolean tryAll(int law, int lies, int trust, int set, int from) {
        tried++;
        if (tried > 6000) {
            return false;
        }
        int sum = sum(set, lies, trust);
        int differ = Integer.lowestOneBit(set ^ worst);
        if (sum < least || sum == least && (worst & differ) != 0) {
            least = sum;
            worst = set;
        }
        for (int d = from; d < days.size() && Integer.bitCount(set) < lies; d++) {
            if (days.get(d)[0] == 0 && lets(law, set, d) && !tryAll(law, lies, trust, set | 1 << d, d + 1)) {
                return false;
            }
        }
        return true;
    }

    private boolean tryAll(int law, int lies, int trust) {
        least = Integer.MAX_VALUE;
        worst = 0;
        tried = 0;
        return tryAll(law, lies, trust, 0, 0);
    }

    /** Whether HARM can be had here by trying all sets, with so many LIES more. */
    boolean canTry(int law, int more) {
        return tryAll(law, settings[0] + more, settings[2]);
    }

    int law() {
        return settings[1];
    }

    int harm() {
        tryAll(settings[1], settings[0], settings[2]);
        return least;
    }

    int worst() {
        tryAll(settings[1], settings[0], settings[2]);
        return worst;
    }

    int best() {
        int best = -1;
        int most = Integer.MIN_VALUE;
        for (int trust = 0; trust <= 8; trust++) {
            tryAll(settings[1], settings[0], trust);
            best = least > most ? trust : best;
            most = Math.max(most, least);
        }
        return best;
    }

    int price() {
        if (settings[0] == 9) {
            return -100000002;
        }
        int harm = harm();
        tryAll(settings[1], settings[0] + 1, settings[2]);
        return harm - least;
    }

    int under(int law) {
        if (!in(law, 0, 3)) {
            return -100000001;
        }
        tryAll(law, settings[0], settings[2]);
        return least;
    }

    int sure(int f, int g, int lies, int words, int part) {
        if (!in(f, 0, 8) || !in(g, 0, 8) || !in(lies, 0, 99) || !in(words, 1, 99) || lies > words || !in(part, 0, 1)) {
            return -1;
        }
        int above = f * lies;
        int below = f * lies + g * (words - lies);
        if (below == 0) {
            return -4;
        }
        for (int by = below; by > 1; by--) {
            if (above % by == 0 && below % by == 0) {
                return (part == 0 ? above : below) / by;
            }
        }
        return part == 0 ? above : below;
    }

    int bet(int x, int y, int what) {
        if (!in(x, 0, 99) || !in(y, 0, 99) || !in(what, 0, 1)) {
            return -1;
        }
        int bestA = 1000;
        int bestB = 1000;
        for (int a = 1; a <= 99; a++) {
            for (int b = 1; b <= 99; b++) {
                if (x * a - b > 0 && y * b - a > 0 && a + b < bestA + bestB) {
                    bestA = a;
                    bestB = b;
                }
            }
        }
        return bestA == 1000 ? -4 : what == 0 ? bestA : bestB;
    }

    private int all;
    private int any;
    private int many;

    private void fit(int words, int truths, int lies, int k, int set, int from) {
        if (Integer.bitCount(set) == k) {
            if ((lies & ~set) == 0) {
                many++;
                all &= set;
                any |= set;
            }
            return;
        }
        for (int d = from; d < 28; d++) {
            if (bit(words, d) && !bit(truths, d) && lets(settings[1], set, d)) {
                fit(words, truths, lies, k, set | 1 << d, d + 1);
            }
        }
    }

    int sets(int words, int truths, int lies, int k) {
        if (!in(words, 0, (1 << 28) - 1) || (words | truths | lies) != words || (truths & lies) != 0 || !in(k, 0, 9)) {
            return -1;
        }
        many = 0;
        all = -1;
        any = 0;
        fit(words, truths, lies, k, 0, 0);
        return many;
    }

    int surely(int words, int truths, int lies, int k, int what) {
        if (!in(what, 0, 1) || sets(words, truths, lies, k) == -1) {
            return -1;
        }
        return many == 0 ? -4 : what == 0 ? all : words & ~any;
    }

    int lots() {
        int set = 0;
        for (int d = 0; d < days.size(); d++) {
            draw = (draw * 1103515245L + 12345L) & 0x7fffffffL;
            int left = settings[0] - Integer.bitCount(set);
            boolean may = days.get(d)[0] == 0 && lets(settings[1], set, d) && left > 0;
            if (may && draw / 65536 % (days.size() - d) < left) {
                set |= 1 << d;
            }
        }
        return set;
    }

    int seed(int v) {
        if (v < 0) {
            return -1;
        }
        int was = (int) draw;
        draw = v;
        return was;
    }

    private static List<int[]> copyOf(List<int[]> days) {
        List<int[]> copy = new ArrayList<>();
        for (int[] day : days) {
            copy.add(day.clone());
        }
        return copy;
    }

    int image() {
        keptDays = copyOf(days);
        keptSettings = settings.clone();
        keptDraw = draw;
        return 1;
    }

    int restore() {
        if (keptDays == null) {
            return -4;
        }
        days = copyOf(keptDays);
        settings = keptSettings.clone();
        draw = keptDraw;
        return 1;
    }

    // SHEETS: what the machine throws is what is due.

    private static int thrown(RuntimeException e) {
        return e instanceof NullPointerException ? -11 : e instanceof ClassCastException ? -12
            : e instanceof NegativeArraySizeException ? -14 : -13;
    }

    private static int length(Object row, int lane) {
        if (row == null) {
            throw new NullPointerException();
        }
        return lane == 0 ? ((byte[]) row).length : lane == 1 ? ((short[]) row).length : ((int[]) row).length;
    }

    private static int[] items(Object row, int lane, int from, int n) {
        int length = length(row, lane);
        if (from < 0 || from > length) {
            throw new ArrayIndexOutOfBoundsException();
        }
        int[] items = new int[n];
        for (int i = 0; i < n; i++) {
            items[i] = lane == 0 ? ((byte[]) row)[from + i] : lane == 1 ? ((short[]) row)[from + i] : ((int[]) row)[from + i];
        }
        return items;
    }

    private static void write(Object row, int lane, int i, int v) {
        if (lane == 0) {
            ((byte[]) row)[i] = (byte) v;
        } else if (lane == 1) {
            ((short[]) row)[i] = (short) v;
        } else {
            ((int[]) row)[i] = v;
        }
    }

    int judged(int sheet, int lane, int from, int n) {
        if (!in(sheet, 0, 3) || !in(lane, 0, 2) || !in(n, 0, 9)) {
            return -100000001;
        }
        int[] row;
        try {
            row = items(sheets[sheet], lane, from, n);
        } catch (RuntimeException e) {
            return -100000000 + thrown(e);
        }
        int set = 0;
        for (int i = 0; i < n; i++) {
            if (!in(row[i], 0, days.size() - 1) || i > 0 && row[i] <= row[i - 1]) {
                return -100000002;
            }
            set |= 1 << row[i];
        }
        return gain(set);
    }

    int film(int set, int sheet, int lane, int from) {
        if (!isSet(set) || !in(sheet, 0, 3) || !in(lane, 0, 2)) {
            return -1;
        }
        if (lawful(set) == 0) {
            return -2;
        }
        try {
            items(sheets[sheet], lane, from, days.size());
            int[] has = year(set, settings[0], settings[2], false);
            for (int d = 0; d < has.length; d++) {
                write(sheets[sheet], lane, from + d, has[d]);
            }
            return has.length;
        } catch (RuntimeException e) {
            return thrown(e);
        }
    }

    int sheet(int sheet, int lane, int n) {
        if (!in(sheet, 0, 3) || !in(lane, 0, 2) || n > 28) {
            return -1;
        }
        try {
            sheets[sheet] = lane == 0 ? (Object) new byte[n] : lane == 1 ? (Object) new short[n] : (Object) new int[n];
            return n;
        } catch (RuntimeException e) {
            return thrown(e);
        }
    }

    private static int laneOf(Object row) {
        return row instanceof byte[] ? 0 : row instanceof short[] ? 1 : 2;
    }

    int drop(int sheet) {
        if (!in(sheet, 0, 3)) {
            return -1;
        }
        try {
            int n = length(sheets[sheet], laneOf(sheets[sheet]));
            sheets[sheet] = null;
            return n;
        } catch (RuntimeException e) {
            return thrown(e);
        }
    }

    int item(int sheet, int lane, int i, int v) {
        if (!in(sheet, 0, 3) || !in(lane, 0, 2)) {
            return -1;
        }
        try {
            length(sheets[sheet], lane);
            write(sheets[sheet], lane, i, v);
            return 1;
        } catch (RuntimeException e) {
            return thrown(e);
        }
    }

    int copy(int from, int i, int to, int j, int n) {
        if (!in(from, 0, 3) || !in(to, 0, 3)) {
            return -1;
        }
        try {
            System.arraycopy(sheets[from], i, sheets[to], j, n);
            return n;
        } catch (ArrayStoreException e) {
            return -12;
        } catch (RuntimeException e) {
            return thrown(e);
        }
    }
}
