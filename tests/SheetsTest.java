/** Promises 28 to 33: sheets that may be missing. */
public final class SheetsTest {
    private static final Due DUE = new Due();
    private static final int LOWER = 100000000;
    private static final int NO_DAY = -1;
    private static final int[] WILD = {-1, Integer.MIN_VALUE, Integer.MAX_VALUE};

    public static void main(String[] args) {
        sheet();
        drop();
        item();
        copy();
        copyRefused();
        judged();
        judgedRefused();
        film();
        filmRefused();
        DUE.end();
    }

    private static void sheet() {
        NineLies x = new NineLies();
        for (int s = 0; s < 4; s++) {
            for (int lane = 0; lane < 3; lane++) {
                DUE.is("30 none", x.sheet(s, lane, 0), 0);
                DUE.is("30 all", x.sheet(s, lane, 28), 28);
                DUE.is("30 above", x.sheet(s, lane, 29), NineLies.BAD);
                DUE.is("30 below", x.sheet(s, lane, -1), NineLies.SIZE);
                DUE.is("30 it stays", x.item(s, lane, 27, 1), 1);
            }
            DUE.is("30 items", x.drop(s), 28);
        }
        DUE.is("30 sheet 4", x.sheet(4, 0, 1), NineLies.BAD);
        DUE.is("30 lane 3", x.sheet(0, 3, 1), NineLies.BAD);
        DUE.is("30 bad ahead of size", x.sheet(0, 3, -1), NineLies.BAD);
        DUE.is("30 bad ahead of size", x.sheet(4, 0, -1), NineLies.BAD);
        for (int wild : WILD) {
            DUE.is("30 wild", x.sheet(wild, 0, 1), NineLies.BAD);
            DUE.is("30 wild", x.sheet(0, wild, 1), NineLies.BAD);
            DUE.is("30 wild", x.sheet(0, 0, wild), wild < 0 ? NineLies.SIZE : NineLies.BAD);
        }
        DUE.is("30 none of them came", x.drop(0), NineLies.NULL);
        // a new row has 0 in each item
        NineLies y = Due.year("-1/1,-1/1,-1/1");
        y.sheet(0, 2, 2);
        y.item(0, 2, 0, 1);
        y.item(0, 2, 1, 2);
        DUE.is("30 a row of DAYS 1, 2", y.judged(0, 2, 0, 2), 0);
        y.sheet(0, 2, 2);
        DUE.is("30 a row of DAYS 0, 0", y.judged(0, 2, 0, 2), NineLies.NOT - LOWER);
        y.item(0, 2, 1, 1);
        DUE.is("30 a row of DAYS 0, 1", y.judged(0, 2, 0, 2), 0);
    }

    private static void drop() {
        NineLies x = new NineLies();
        x.sheet(2, 1, 5);
        DUE.is("31 other", x.drop(1), NineLies.NULL);
        DUE.is("31 drop", x.drop(2), 5);
        DUE.is("31 again", x.drop(2), NineLies.NULL);
        DUE.is("31 gone", x.item(2, 1, 0, 0), NineLies.NULL);
        x.sheet(2, 1, 0);
        DUE.is("31 no items", x.drop(2), 0);
        DUE.is("31 sheet 4", x.drop(4), NineLies.BAD);
        for (int wild : WILD) {
            DUE.is("31 wild", x.drop(wild), NineLies.BAD);
        }
    }

    /** Whether item 0 of a SHEET is a DAY, told by whether the row of it alone is judged as that DAY's. */
    private static boolean isDay(NineLies x, int sheet, int lane, int i, int day) {
        x.alter(day, 2, 50 + day);
        boolean is = x.judged(sheet, lane, i, 1) == -50 - day;
        x.alter(day, 2, 0);
        return is;
    }

    private static void item() {
        NineLies x = Due.year("-0,-0,-0,-0,-0,-0,-0,-0,-0");
        x.set(0, 1);
        x.set(2, 8);
        int[] shifts = {8, 16, 0};
        for (int lane = 0; lane < 3; lane++) {
            DUE.is("32 null", x.item(3, lane, 0, 1), NineLies.NULL);
            x.sheet(3, lane, 4);
            DUE.is("32 item", x.item(3, lane, 3, 5), 1);
            DUE.is("32 is 5", isDay(x, 3, lane, 3, 5) ? 1 : 0, 1);
            DUE.is("32 index", x.item(3, lane, 4, 1), NineLies.INDEX);
            for (int wild : WILD) {
                DUE.is("32 index", x.item(3, lane, wild, 1), NineLies.INDEX);
                DUE.is("32 bad", x.item(wild, lane, 0, 1), NineLies.BAD);
                DUE.is("32 bad", x.item(3, wild, 0, 1), NineLies.BAD);
            }
            DUE.is("32 bad", x.item(4, lane, 0, 1), NineLies.BAD);
            DUE.is("32 cast", x.item(3, (lane + 1) % 3, 0, 1), NineLies.CAST);
            DUE.is("32 cast ahead of index", x.item(3, (lane + 2) % 3, 9, 1), NineLies.CAST);
            int far = 7 + (shifts[lane] == 0 ? 0 : 3 << shifts[lane]);
            DUE.is("32 wide", x.item(3, lane, 2, far), 1);
            DUE.is("32 lowest bits", isDay(x, 3, lane, 2, 7) ? 1 : 0, 1);
            DUE.is("32 wide, below 0", x.item(3, lane, 2, 7 - (1 << 20)), 1);
            DUE.is("32 lowest bits", isDay(x, 3, lane, 2, 7) ? 1 : 0, lane == 2 ? 0 : 1);
            x.item(3, lane, 2, 7 + (1 << 8));
            DUE.is("32 lowest bits", isDay(x, 3, lane, 2, 7) ? 1 : 0, lane == 0 ? 1 : 0);
            x.item(3, lane, 2, 135);
            DUE.is("32 with its sign", x.judged(3, lane, 2, 1), NineLies.NOT - LOWER);
            x.drop(3);
        }
        DUE.is("32 bad ahead of null", x.item(0, 3, 0, 1), NineLies.BAD);
    }

    private static void filled(NineLies x, int sheet, int lane, int n) {
        x.sheet(sheet, lane, n);
        for (int i = 0; i < n; i++) {
            x.item(sheet, lane, i, i);
        }
    }

    private static void items(String call, NineLies x, int sheet, int lane, int... due) {
        for (int i = 0; i < due.length; i++) {
            DUE.is("33 " + call + ", item " + i, isDay(x, sheet, lane, i, due[i]) ? 1 : 0, 1);
        }
    }

    private static void copy() {
        NineLies x = Due.year("-0,-0,-0,-0,-0,-0,-0,-0,-0");
        x.set(0, 1);
        x.set(2, 8);
        for (int lane = 0; lane < 3; lane++) {
            filled(x, 0, lane, 6);
            x.sheet(1, lane, 4);
            DUE.is("33 another", x.copy(0, 3, 1, 1, 3), 3);
            items("another", x, 1, lane, 0, 3, 4, 5);
            items("the one it is from", x, 0, lane, 0, 1, 2, 3, 4, 5);
            DUE.is("33 the same, up", x.copy(0, 0, 0, 2, 4), 4);
            items("the same, up", x, 0, lane, 0, 1, 0, 1, 2, 3);
            filled(x, 0, lane, 6);
            DUE.is("33 the same, down", x.copy(0, 2, 0, 0, 4), 4);
            items("the same, down", x, 0, lane, 2, 3, 4, 5, 4, 5);
            DUE.is("33 the same, at home", x.copy(0, 0, 0, 0, 6), 6);
            items("the same, at home", x, 0, lane, 2, 3, 4, 5, 4, 5);
            DUE.is("33 none", x.copy(0, 6, 1, 4, 0), 0);
            x.item(0, lane, 0, 8);
            items("no link", x, 1, lane, 0, 3, 4, 5);
        }
    }

    private static void copyRefused() {
        NineLies x = new NineLies();
        x.sheet(0, 1, 6);
        x.sheet(1, 1, 4);
        x.sheet(2, 2, 4);
        int[][] calls = {
            {4, 0, 0, 0, 1, NineLies.BAD}, {0, 0, 4, 0, 1, NineLies.BAD}, {-1, 0, 0, 0, 1, NineLies.BAD},
            {0, 0, -1, 0, 1, NineLies.BAD}, {3, 0, 4, 0, 1, NineLies.BAD}, {4, -1, 3, 0, 1, NineLies.BAD},
            {Integer.MIN_VALUE, 0, 0, 0, 0, NineLies.BAD}, {0, 0, Integer.MAX_VALUE, 0, 0, NineLies.BAD},
            {3, 0, 0, 0, 0, NineLies.NULL}, {0, 0, 3, 0, 0, NineLies.NULL}, {3, 0, 3, 0, -1, NineLies.NULL},
            {0, 0, 2, 0, 0, NineLies.CAST}, {2, 0, 0, 0, 0, NineLies.CAST}, {2, 9, 0, 9, -1, NineLies.CAST},
            {0, 0, 1, 0, -1, NineLies.INDEX}, {0, -1, 1, 0, 0, NineLies.INDEX}, {0, 0, 1, -1, 0, NineLies.INDEX},
            {0, 7, 1, 0, 0, NineLies.INDEX}, {0, 0, 1, 5, 0, NineLies.INDEX}, {0, 6, 1, 4, 0, 0},
            {0, 6, 1, 0, 1, NineLies.INDEX}, {0, 0, 1, 4, 1, NineLies.INDEX}, {0, 3, 1, 0, 4, NineLies.INDEX},
            {0, 0, 1, 1, 4, NineLies.INDEX}, {0, 0, 1, 0, 5, NineLies.INDEX}, {0, 0, 1, 0, 4, 4},
            {0, Integer.MAX_VALUE, 1, 0, 1, NineLies.INDEX}, {0, 1, 1, Integer.MAX_VALUE, 1, NineLies.INDEX},
            {0, 1, 1, 1, Integer.MAX_VALUE, NineLies.INDEX}, {0, Integer.MIN_VALUE, 1, 0, 1, NineLies.INDEX},
            {0, 1, 1, Integer.MIN_VALUE, 1, NineLies.INDEX}, {0, 1, 1, 1, Integer.MIN_VALUE, NineLies.INDEX},
            {0, Integer.MAX_VALUE, 0, Integer.MAX_VALUE, Integer.MAX_VALUE, NineLies.INDEX}};
        for (int[] c : calls) {
            String call = "33 copy " + c[0] + " " + c[1] + " " + c[2] + " " + c[3] + " " + c[4];
            DUE.is(call, x.copy(c[0], c[1], c[2], c[3], c[4]), c[5]);
        }
    }

    private static void judged() {
        NineLies x = Due.year("-0/10,-0/20,+30/5,-0/40");
        x.set(2, 8);
        x.set(0, 3);
        for (int lane = 0; lane < 3; lane++) {
            x.sheet(1, lane, 5);
            int[] items = {0, 0, 1, 3, 2};
            for (int i = 0; i < 5; i++) {
                x.item(1, lane, i, items[i]);
            }
            DUE.is("28 none", x.judged(1, lane, 0, 0), x.gain(0));
            DUE.is("28 none at the end", x.judged(1, lane, 5, 0), 0);
            DUE.is("28 one", x.judged(1, lane, 1, 1), 30 * 1 - 10);
            DUE.is("28 two", x.judged(1, lane, 1, 2), 30 - 30);
            DUE.is("28 three", x.judged(1, lane, 1, 3), 30 - 70);
            DUE.is("28 two", x.judged(1, lane, 2, 2), x.gain(Due.days(1, 3)));
            DUE.is("28 like ones", x.judged(1, lane, 0, 2), NineLies.NOT - LOWER);
            DUE.is("28 falling", x.judged(1, lane, 3, 2), NineLies.NOT - LOWER);
            DUE.is("28 news", x.judged(1, lane, 4, 1), NineLies.NOT - LOWER);
            x.set(0, 1);
            DUE.is("28 none left", x.judged(1, lane, 1, 2), NineLies.NOT - LOWER);
            x.set(0, 3);
        }
    }

    private static void judgedRefused() {
        NineLies x = Due.year("-0/10,-0/20,-0/30,-0/40");
        x.sheet(0, 1, 10);
        int[][] calls = {
            {4, 1, 0, 1, NineLies.BAD}, {-1, 1, 0, 1, NineLies.BAD}, {0, 3, 0, 1, NineLies.BAD}, {0, -1, 0, 1, NineLies.BAD},
            {0, 1, 0, 10, NineLies.BAD}, {0, 1, 0, -1, NineLies.BAD}, {1, 1, 0, 10, NineLies.BAD}, {0, 2, 0, -1, NineLies.BAD},
            {0, 1, 99, 10, NineLies.BAD}, {Integer.MAX_VALUE, 1, 0, 1, NineLies.BAD}, {0, Integer.MIN_VALUE, 0, 1, NineLies.BAD},
            {1, 1, 0, 1, NineLies.NULL}, {1, 1, 99, 0, NineLies.NULL}, {0, 0, 0, 1, NineLies.CAST}, {0, 2, 99, 1, NineLies.CAST},
            {0, 1, -1, 0, NineLies.INDEX}, {0, 1, 11, 0, NineLies.INDEX}, {0, 1, 10, 1, NineLies.INDEX}, {0, 1, 2, 9, NineLies.INDEX},
            {0, 1, Integer.MAX_VALUE, 9, NineLies.INDEX}, {0, 1, Integer.MIN_VALUE, 9, NineLies.INDEX},
            {0, 1, 1, 9, NineLies.NOT}, {0, 1, 0, 2, NineLies.NOT}};
        for (int[] c : calls) {
            String call = "28 judged " + c[0] + " " + c[1] + " " + c[2] + " " + c[3];
            DUE.is(call, x.judged(c[0], c[1], c[2], c[3]), c[4] - LOWER);
        }
        int[] noDays = {-1, 4, 5, 28, 31, 32, 33, 127, -128, -32768, 32767};
        for (int day : noDays) {
            x.item(0, 1, 0, day);
            DUE.is("28 no day " + day, x.judged(0, 1, 0, 1), NineLies.NOT - LOWER);
        }
        x.sheet(0, 2, 1);
        x.item(0, 2, 0, Integer.MIN_VALUE);
        DUE.is("28 no day", x.judged(0, 2, 0, 1), NineLies.NOT - LOWER);
        x.item(0, 2, 0, Integer.MAX_VALUE);
        DUE.is("28 no day", x.judged(0, 2, 0, 1), NineLies.NOT - LOWER);
        x.set(1, 2);
        x.sheet(0, 0, 2);
        x.item(0, 0, 1, 1);
        DUE.is("28 not by the law", x.judged(0, 0, 0, 2), NineLies.NOT - LOWER);
        NineLies y = new NineLies();
        y.sheet(0, 0, 9);
        DUE.is("28 no day, none taken", y.judged(0, 0, 9, 0), 0);
        DUE.is("28 no day, one taken", y.judged(0, 0, 0, 1), NineLies.NOT - LOWER);
    }

    private static void film() {
        NineLies x = Due.year("+7/99,-0/1,-99/3,+5,-0/4");
        x.set(2, 8);
        x.set(0, 2);
        int[] due = {6, 7, NO_DAY, NO_DAY, 5, 0, 6};
        for (int lane = 0; lane < 3; lane++) {
            x.sheet(2, lane, 7);
            for (int i = 0; i < 7; i++) {
                x.item(2, lane, i, 6);
            }
            DUE.is("29 film", x.film(Due.days(1, 2), 2, lane, 1), 5);
            for (int i = 0; i < 7; i++) {
                DUE.is("29 lane " + lane + ", item " + i, dayOf(x, 2, lane, i), due[i]);
            }
        }
        x.set(2, 0);
        x.sheet(2, 0, 5);
        for (int i = 0; i < 5; i++) {
            x.item(2, 0, i, 9);
        }
        DUE.is("29 untrusted", x.film(Due.days(1), 2, 0, 0), 5);
        for (int i = 0; i < 5; i++) {
            DUE.is("29 untrusted, item " + i, dayOf(x, 2, 0, i), 0);
        }
        NineLies z = new NineLies();
        z.sheet(0, 0, 0);
        DUE.is("29 no day", z.film(0, 0, 0, 0), 0);
        DUE.is("29 no day, index", z.film(0, 0, 0, 1), NineLies.INDEX);
        DUE.is("29 no day, index", z.film(0, 0, 0, -1), NineLies.INDEX);
    }

    /** Which DAY of a YEAR of 28 an item is; what is below 0 shows only as NO_DAY. */
    private static int dayOf(NineLies x, int sheet, int lane, int i) {
        x.image();
        Due.type(x, Due.repeat("-0", 28, ","));
        x.year();
        x.set(0, 1);
        x.set(1, 0);
        x.set(2, 8);
        int found = NO_DAY;
        for (int day = 0; day < 28; day++) {
            found = isDay(x, sheet, lane, i, day) ? day : found;
        }
        x.restore();
        return found;
    }

    private static void filmRefused() {
        NineLies x = Due.year("-0/10,+20,-0/30");
        x.sheet(0, 1, 5);
        int[][] calls = {
            {8, 0, 1, 0, NineLies.BAD}, {-1, 0, 1, 0, NineLies.BAD}, {0, 4, 1, 0, NineLies.BAD}, {0, -1, 1, 0, NineLies.BAD},
            {0, 0, 3, 0, NineLies.BAD}, {0, 0, -1, 0, NineLies.BAD}, {2, 0, 3, 0, NineLies.BAD}, {2, 4, 1, 0, NineLies.BAD},
            {2, 0, 1, 0, NineLies.NOT}, {2, 1, 1, 0, NineLies.NOT}, {2, 0, 2, 99, NineLies.NOT},
            {1, 1, 1, 0, NineLies.NULL}, {1, 1, 1, 99, NineLies.NULL}, {1, 0, 0, 0, NineLies.CAST}, {1, 0, 2, 99, NineLies.CAST},
            {1, 0, 1, 3, NineLies.INDEX}, {1, 0, 1, 6, NineLies.INDEX}, {1, 0, 1, -1, NineLies.INDEX},
            {1, 0, 1, Integer.MAX_VALUE, NineLies.INDEX}, {1, 0, 1, Integer.MIN_VALUE, NineLies.INDEX}, {1, 0, 1, 2, 3}};
        for (int[] c : calls) {
            DUE.is("29 film " + c[0] + " " + c[1] + " " + c[2] + " " + c[3], x.film(c[0], c[1], c[2], c[3]), c[4]);
        }
        NineLies y = Due.year("+5,+6,+7");
        y.set(0, 0);
        y.sheet(0, 0, 4);
        DUE.is("29 too few items", y.film(0, 0, 0, 2), NineLies.INDEX);
        DUE.is("29 refused changes nothing", dayOf(y, 0, 0, 2), 0);
        DUE.is("29 refused changes nothing", dayOf(y, 0, 0, 3), 0);
        DUE.is("29 enough", y.film(0, 0, 0, 1), 3);
        DUE.is("29 enough", dayOf(y, 0, 0, 3), 7);
    }
}
