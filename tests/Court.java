/** An object of NineLies that remembers the words of its last call and is used for no more calls than are promised. */
final class Court {
    static final int MOST_CALLS = 512;
    /** 28 DAYS on which a LIE costs one more than the DAY's number. */
    static final String DEAR_DAYS = dearDays();

    private static String lastCall = "";

    private final NineLies x = new NineLies();
    private int calls = 0;

    static String lastCall() {
        return lastCall;
    }

    /** One that has read the YEAR of a text. */
    static Court of(String text) {
        Court x = new Court();
        x.typeAll(text);
        x.year();
        return x;
    }

    static Court of(String text, int lies, int law, int trust) {
        Court x = of(text);
        x.setAll(lies, law, trust);
        return x;
    }

    /** One that shows what items its SHEETS have: GAIN of each single DAY is another one. */
    static Court thatShowsItems() {
        return of(DEAR_DAYS, 1, 0, 8);
    }

    private static String dearDays() {
        StringBuilder text = new StringBuilder("-0/1");
        for (int d = 1; d < 28; d++) {
            text.append(",-0/").append(d + 1);
        }
        return text.toString();
    }

    void typeAll(String text) {
        for (int from = 0; from < text.length(); from += 8) {
            String part = text.substring(from, Math.min(from + 8, text.length()));
            type(Due.packed(part), part.length());
        }
    }

    void setAll(int lies, int law, int trust) {
        set(0, lies);
        set(1, law);
        set(2, trust);
    }

    int calls() {
        return calls;
    }

    /** All that calls show of the YEAR, its LIES, LAW, TRUST and THE DRAW, without a lasting change. */
    String state() {
        StringBuilder all = new StringBuilder("counts");
        for (int what = 0; what < 7; what++) {
            all.append(' ').append(count(what));
        }
        int days = count(0);
        for (int d = 0; d < days; d++) {
            all.append(", ").append(told(d, 0)).append(' ').append(told(d, 1)).append(' ').append(told(d, 2));
        }
        int draw = seed(0);
        seed(draw);
        return all.append(", draw ").append(draw).toString();
    }

    /** Of one that shows items: which DAY an item is, or -1. */
    int itemOf(int sheet, int lane, int i) {
        int gain = judged(sheet, lane, i, 1);
        return gain < -28 ? -1 : -gain - 1;
    }

    /** Of one that shows items: the items of a SHEET from its first on. */
    String itemsOf(int sheet, int lane, int n) {
        StringBuilder all = new StringBuilder();
        for (int i = 0; i < n; i++) {
            all.append(i == 0 ? "" : " ").append(itemOf(sheet, lane, i));
        }
        return all.toString();
    }

    /** A new row of a LANE with these items. */
    void row(int sheet, int lane, int... items) {
        sheet(sheet, lane, items.length);
        for (int i = 0; i < items.length; i++) {
            item(sheet, lane, i, items[i]);
        }
    }

    private void called(String name, long... with) {
        calls++;
        if (calls > MOST_CALLS) {
            throw new IllegalStateException("a test makes more calls than are promised, the last: " + lastCall);
        }
        StringBuilder words = new StringBuilder(name).append('(');
        for (int i = 0; i < with.length; i++) {
            words.append(i == 0 ? "" : ", ").append(with[i]);
        }
        lastCall = words.append(')').toString();
    }

    int day(int news, int worth, int cost) {
        called("day", news, worth, cost);
        return x.day(news, worth, cost);
    }

    int alter(int day, int what, int v) {
        called("alter", day, what, v);
        return x.alter(day, what, v);
    }

    int told(int day, int what) {
        called("told", day, what);
        return x.told(day, what);
    }

    int strike() {
        called("strike");
        return x.strike();
    }

    int set(int what, int v) {
        called("set", what, v);
        return x.set(what, v);
    }

    int type(long w, int n) {
        called("type", w, n);
        return x.type(w, n);
    }

    int type(String text) {
        return type(Due.packed(text), text.length());
    }

    int year() {
        called("year");
        return x.year();
    }

    int count(int what) {
        called("count", what);
        return x.count(what);
    }

    int may(int set) {
        called("may", set);
        return x.may(set);
    }

    int lawful(int set) {
        called("lawful", set);
        return x.lawful(set);
    }

    int wrong(int set) {
        called("wrong", set);
        return x.wrong(set);
    }

    int gain(int set) {
        called("gain", set);
        return x.gain(set);
    }

    int trusted(int set) {
        called("trusted", set);
        return x.trusted(set);
    }

    int harm() {
        called("harm");
        return x.harm();
    }

    int worst() {
        called("worst");
        return x.worst();
    }

    int best() {
        called("best");
        return x.best();
    }

    int price() {
        called("price");
        return x.price();
    }

    int under(int law) {
        called("under", law);
        return x.under(law);
    }

    int sure(int f, int g, int lies, int words, int part) {
        called("sure", f, g, lies, words, part);
        return x.sure(f, g, lies, words, part);
    }

    int bet(int forLie, int forTrue, int what) {
        called("bet", forLie, forTrue, what);
        return x.bet(forLie, forTrue, what);
    }

    int sets(int words, int truths, int lies, int k) {
        called("sets", words, truths, lies, k);
        return x.sets(words, truths, lies, k);
    }

    int surely(int words, int truths, int lies, int k, int what) {
        called("surely", words, truths, lies, k, what);
        return x.surely(words, truths, lies, k, what);
    }

    int lots() {
        called("lots");
        return x.lots();
    }

    int seed(int v) {
        called("seed", v);
        return x.seed(v);
    }

    int image() {
        called("image");
        return x.image();
    }

    int restore() {
        called("restore");
        return x.restore();
    }

    int judged(int sheet, int lane, int from, int n) {
        called("judged", sheet, lane, from, n);
        return x.judged(sheet, lane, from, n);
    }

    int film(int set, int sheet, int lane, int from) {
        called("film", set, sheet, lane, from);
        return x.film(set, sheet, lane, from);
    }

    int sheet(int sheet, int lane, int n) {
        called("sheet", sheet, lane, n);
        return x.sheet(sheet, lane, n);
    }

    int drop(int sheet) {
        called("drop", sheet);
        return x.drop(sheet);
    }

    int item(int sheet, int lane, int i, int v) {
        called("item", sheet, lane, i, v);
        return x.item(sheet, lane, i, v);
    }

    int copy(int from, int i, int to, int j, int n) {
        called("copy", from, i, to, j, n);
        return x.copy(from, i, to, j, n);
    }
}
