/** Promises 22 to 27: words, lots, images. */
public final class WordsTest {
    private static final Due DUE = new Due();

    public static void main(String[] args) {
        fits();
        laws();
        refused();
        seed();
        lots();
        lotsByLaw();
        image();
        DUE.end();
    }

    private static void words(NineLies x, int[] known, int many, int lies, int truths) {
        int w = known[0];
        int t = known[1];
        int l = known[2];
        int k = known[3];
        String call = w + ", " + t + ", " + l + ", " + k;
        DUE.is("22 sets " + call, x.sets(w, t, l, k), many);
        DUE.is("23 surely 0 " + call, x.surely(w, t, l, k, 0), lies);
        DUE.is("23 surely 1 " + call, x.surely(w, t, l, k, 1), truths);
    }

    private static void fits() {
        NineLies x = new NineLies();
        int none = NineLies.NONE;
        words(x, new int[] {0, 0, 0, 0}, 1, 0, 0);
        words(x, new int[] {0, 0, 0, 1}, 0, none, none);
        words(x, new int[] {7, 0, 0, 0}, 1, 0, 7);
        words(x, new int[] {7, 0, 0, 1}, 3, 0, 0);
        words(x, new int[] {7, 1, 0, 1}, 2, 0, 1);
        words(x, new int[] {7, 3, 0, 1}, 1, 4, 3);
        words(x, new int[] {7, 0, 0, 3}, 1, 7, 0);
        words(x, new int[] {7, 0, 0, 4}, 0, none, none);
        words(x, new int[] {7, 7, 0, 1}, 0, none, none);
        words(x, new int[] {7, 0, 3, 1}, 0, none, none);
        words(x, new int[] {7, 0, 3, 2}, 1, 3, 4);
        words(x, new int[] {7, 0, 1, 2}, 2, 1, 0);
        words(x, new int[] {Due.days(3, 9, 27), 0, Due.days(27), 2}, 2, Due.days(27), 0);
        int all = (1 << 28) - 1;
        words(x, new int[] {all, 0, 0, 9}, 6906900, 0, 0);
        words(x, new int[] {all, 0, (1 << 9) - 1, 9}, 1, 511, all - 511);
        words(x, new int[] {all, 0, (1 << 10) - 1, 9}, 0, none, none);
        // NEWS and LIES as told count for nothing
        NineLies y = Due.year("+1,+1,+1");
        y.set(0, 0);
        words(y, new int[] {15, 0, 0, 2}, 6, 0, 0);
        DUE.is("22 lies stay", y.count(2), 0);
        DUE.is("22 news stay", y.count(1), 3);
    }

    private static void laws() {
        NineLies x = new NineLies();
        int none = NineLies.NONE;
        int all = (1 << 28) - 1;
        x.set(1, 1);
        words(x, new int[] {Due.days(5, 6, 7, 13), 0, 0, 2}, 1, Due.days(5, 7), Due.days(6, 13));
        words(x, new int[] {Due.days(5, 6, 7), 0, Due.days(6), 2}, 0, none, none);
        words(x, new int[] {all, 0, 0, 1}, 24, 0, Due.days(6, 13, 20, 27));
        x.set(1, 2);
        words(x, new int[] {7, 0, 0, 2}, 1, 5, 2);
        words(x, new int[] {15, 0, 0, 2}, 3, 0, 0);
        words(x, new int[] {15, 0, 2, 2}, 1, 10, 5);
        words(x, new int[] {15, 0, 6, 2}, 0, none, none);
        words(x, new int[] {Due.days(6, 7), 0, 0, 1}, 2, 0, 0);
        words(x, new int[] {Due.days(6, 7), 0, 0, 2}, 0, none, none);
        words(x, new int[] {all, 0, 0, 9}, 167960, 0, 0);
        words(x, new int[] {Due.days(25, 26, 27), 0, 0, 2}, 1, Due.days(25, 27), Due.days(26));
        x.set(1, 3);
        words(x, new int[] {Due.days(0, 2, 6, 7, 9), 0, 0, 2}, 5, 0, 0);
        words(x, new int[] {Due.days(0, 2, 6, 7, 9), 0, Due.days(6), 2}, 1, Due.days(6, 9), Due.days(0, 2, 7));
        words(x, new int[] {Due.days(0, 6), 0, Due.days(0, 6), 2}, 0, none, none);
        words(x, new int[] {all, 0, 0, 4}, 2255, 0, 0);
        words(x, new int[] {all, 0, 0, 5}, 0, none, none);
        words(x, new int[] {Due.days(21, 27), 0, 0, 1}, 2, 0, 0);
        words(x, new int[] {Due.days(21, 27), 0, 0, 2}, 0, none, none);
    }

    private static void refused() {
        NineLies x = new NineLies();
        int bad = NineLies.BAD;
        int[][] calls = {{-1, 0, 0, 0}, {1 << 28, 0, 0, 0}, {Integer.MIN_VALUE, 0, 0, 0}, {7, 8, 0, 0}, {7, -1, 0, 0},
            {7, 0, 8, 1}, {7, 0, -1, 1}, {7, 1, 1, 1}, {7, 3, 6, 2}, {7, 0, 0, -1}, {7, 0, 0, 10}, {0, 1, 0, 0},
            {7, Integer.MIN_VALUE, 0, 0}, {7, 0, 1 << 28, 1}, {7, 0, 0, Integer.MAX_VALUE}, {-1, -1, 0, 0}};
        for (int[] known : calls) {
            words(x, known, bad, bad, bad);
        }
        DUE.is("23 what", x.surely(7, 0, 0, 1, 2), bad);
        DUE.is("23 what", x.surely(7, 0, 0, 1, -1), bad);
        DUE.is("23 bad ahead of none", x.surely(7, 0, 0, 4, 2), bad);
    }

    private static void seed() {
        NineLies x = new NineLies();
        DUE.is("25 at first", x.seed(0), 1);
        DUE.is("25 bad", x.seed(-1), NineLies.BAD);
        DUE.is("25 bad", x.seed(Integer.MIN_VALUE), NineLies.BAD);
        DUE.is("25 it stays", x.seed(Integer.MAX_VALUE), 0);
        DUE.is("25 the most", x.seed(5), Integer.MAX_VALUE);
    }

    private static void lots() {
        NineLies x = new NineLies();
        DUE.is("24 no day", x.lots(), 0);
        DUE.is("25 no day, no draw", x.seed(1), 1);
        x.day(0, 0, 0);
        DUE.is("24 one day", x.lots(), 1);
        DUE.is("25 drawn", x.seed(1), 1103527590);
        x.set(0, 0);
        DUE.is("24 no lies", x.lots(), 0);
        DUE.is("25 drawn all the same", x.seed(1), 1103527590);
        x.set(0, 9);
        x.alter(0, 0, 1);
        DUE.is("24 news", x.lots(), 0);
        DUE.is("25 drawn all the same", x.seed(1), 1103527590);
        // from 1 on: 1103527590, 377401575, 662824084, 1147902781, 2035015474; by 65536: 16838, 5758, 10113, 17515, 31051
        NineLies y = Due.year("-1,-1,-1,-1,-1");
        y.set(0, 2);
        // 16838 % 5 is 3, 5758 % 4 is 2, 10113 % 3 is 0: LIES, 17515 % 2 is 1, 31051 % 1 is 0: LIES
        DUE.is("24 two of five", y.lots(), Due.days(2, 4));
        DUE.is("25 five draws", y.seed(1), 2035015474);
        y.set(0, 9);
        DUE.is("24 nine of five", y.lots(), 31);
        DUE.is("24 it goes on", y.seed(1), 2035015474);
        y.set(0, 4);
        DUE.is("24 four of five", y.lots(), Due.days(0, 1, 2, 4));
    }

    private static void lotsByLaw() {
        NineLies x = Due.year(Due.repeat("-1", 28, ","));
        for (int law = 0; law < 4; law++) {
            x.set(1, law);
            for (int lies = 0; lies < 10; lies++) {
                x.set(0, lies);
                x.seed(law * 1000003 + lies);
                lots(x, law, lies, law * 1000003 + lies);
            }
        }
        x = Due.year(Due.repeat("-1", 14, ","));
        x.set(1, 3);
        // 16838 % 14 is 10, 5758 % 13 is 12, 10113 % 12 is 9, 17515 % 11 is 3: LIES; 8 are left in the week behind
        DUE.is("24 weeks", x.lots(), Due.days(3, 7));
        x.seed(1);
        x.set(1, 2);
        x.set(0, 9);
        int apart = x.lots();
        DUE.is("24 apart", apart & apart << 1, 0);
        x.set(1, 1);
        DUE.is("24 sundays", x.lots() & Due.days(6, 13), 0);
    }

    private static void lots(NineLies x, int law, int lies, int from) {
        long draw = from;
        int set = 0;
        int last = -9;
        for (int d = 0; d < 28; d++) {
            draw = (draw * 1103515245L + 12345L) % 2147483648L;
            boolean may = law == 0 || law == 1 && d % 7 != 6 || law > 1 && d - last > 1 && (law == 2 || last < 0 || d / 7 != last / 7);
            int left = lies - Integer.bitCount(set);
            if (may && left > 0 && draw / 65536 % (28 - d) < left) {
                set |= 1 << d;
                last = d;
            }
        }
        DUE.is("24 law " + law + ", " + lies + " lies", x.lots(), set);
        DUE.is("24 drawn", x.seed(0), draw);
        DUE.is("24 lawful", x.lawful(set), 1);
    }

    private static void image() {
        NineLies x = Due.year("+10/3,-20/4");
        DUE.is("27 none", x.restore(), NineLies.NONE);
        x.set(0, 5);
        x.set(1, 2);
        x.set(2, 7);
        x.seed(77);
        x.sheet(0, 2, 3);
        x.item(0, 2, 0, 1);
        DUE.is("26 image", x.image(), 1);
        x.alter(0, 1, 50);
        x.strike();
        x.day(1, 1, 1);
        x.day(1, 1, 1);
        x.set(0, 1);
        x.set(1, 1);
        x.set(2, 1);
        x.seed(1);
        x.sheet(0, 1, 5);
        Due.type(x, "-8/9,");
        for (int times = 0; times < 2; times++) {
            DUE.is("27 restore", x.restore(), 1);
            DUE.is("27 days", x.count(0), 2);
            DUE.is("27 worth", x.told(0, 1), 10);
            DUE.is("27 news", x.told(1, 0), 0);
            DUE.is("27 cost", x.told(1, 2), 4);
            DUE.is("27 lies", x.count(2), 5);
            DUE.is("27 law", x.count(3), 2);
            DUE.is("27 trust", x.count(4), 7);
            DUE.is("27 draw", x.seed(77), 77);
            x.alter(0, 1, 60);
            x.alter(1, 0, 1);
            x.set(0, 3);
            x.set(1, 3);
            x.set(2, 3);
            x.seed(3);
        }
        DUE.is("27 the tape stays", x.type(43, 1), 6);
        DUE.is("27 sheets stay", x.drop(0), 5);
        DUE.is("26 another image", x.image(), 1);
        x.strike();
        x.strike();
        DUE.is("27 restore", x.restore(), 1);
        DUE.is("27 worth", x.told(0, 1), 60);
        DUE.is("27 law", x.count(3), 3);
        NineLies y = new NineLies();
        y.image();
        y.day(1, 5, 5);
        DUE.is("27 restore a year of no day", y.restore(), 1);
        DUE.is("27 no day", y.count(0), 0);
    }
}
