/** Promises 1 to 10: days, laws. */
public final class DaysTest {
    private static final Due DUE = new Due();

    public static void main(String[] args) {
        newObject();
        day();
        alterAndTold();
        strike();
        set();
        type();
        yearReads();
        yearFaults();
        yearKeeps();
        count();
        may();
        DUE.end();
    }

    private static void newObject() {
        NineLies x = new NineLies();
        int[] counts = {0, 0, 9, 0, 4, 0, 0};
        for (int what = 0; what < counts.length; what++) {
            DUE.is("1 count " + what, x.count(what), counts[what]);
        }
        DUE.is("1 told", x.told(0, 0), NineLies.BAD);
        DUE.is("1 strike", x.strike(), NineLies.NONE);
        DUE.is("1 year", x.year(), -20);
        DUE.is("1 restore", x.restore(), NineLies.NONE);
        DUE.is("1 seed", x.seed(7), 1);
        for (int s = 0; s < 4; s++) {
            DUE.is("1 drop " + s, x.drop(s), NineLies.NULL);
        }
    }

    private static void day() {
        NineLies x = new NineLies();
        int[][] bad = {{-1, 5, 5}, {2, 5, 5}, {1, -1, 5}, {1, 100, 5}, {0, 5, -1}, {0, 5, 100},
            {Integer.MIN_VALUE, 0, 0}, {0, Integer.MAX_VALUE, 0}, {0, 0, Integer.MIN_VALUE}};
        for (int[] b : bad) {
            DUE.is("2 day bad", x.day(b[0], b[1], b[2]), NineLies.BAD);
        }
        DUE.is("2 none came", x.count(0), 0);
        for (int d = 0; d < 28; d++) {
            DUE.is("2 day " + d, x.day(d % 2, d == 3 ? 99 : d, d == 4 ? 99 : 99 - d), d);
        }
        DUE.is("2 full", x.day(1, 1, 1), NineLies.FULL);
        DUE.is("2 bad ahead of full", x.day(1, 100, 1), NineLies.BAD);
        DUE.is("2 still 28", x.count(0), 28);
        DUE.is("2 news", x.told(27, 0), 1);
        DUE.is("2 worth", x.told(3, 1), 99);
        DUE.is("2 cost", x.told(4, 2), 99);
        DUE.is("2 cost of the last", x.told(27, 2), 72);
    }

    private static void alterAndTold() {
        NineLies x = Due.year("+10/3,-20/4");
        int[][] bad = {{-1, 0, 0}, {2, 0, 0}, {28, 0, 0}, {0, -1, 0}, {0, 3, 0}, {0, 0, 2}, {0, 0, -1},
            {1, 1, 100}, {1, 1, -1}, {1, 2, 100}, {1, 2, -1}, {Integer.MAX_VALUE, 1, 1}, {Integer.MIN_VALUE, 1, 1}};
        for (int[] b : bad) {
            DUE.is("3 alter bad", x.alter(b[0], b[1], b[2]), NineLies.BAD);
        }
        int[][] told = {{1, 10, 3}, {0, 20, 4}};
        for (int d = 0; d < 2; d++) {
            for (int what = 0; what < 3; what++) {
                DUE.is("4 told " + d + " " + what, x.told(d, what), told[d][what]);
            }
        }
        DUE.is("3 alter news", x.alter(0, 0, 0), 1);
        DUE.is("3 alter news", x.alter(1, 0, 1), 0);
        DUE.is("3 alter worth", x.alter(0, 1, 99), 10);
        DUE.is("3 alter worth", x.alter(0, 1, 0), 99);
        DUE.is("3 alter cost", x.alter(1, 2, 99), 4);
        DUE.is("3 alter cost", x.alter(1, 2, 5), 99);
        int[][] now = {{0, 0, 3}, {1, 20, 5}};
        for (int d = 0; d < 2; d++) {
            for (int what = 0; what < 3; what++) {
                DUE.is("3 told then " + d + " " + what, x.told(d, what), now[d][what]);
            }
        }
        DUE.is("4 told bad", x.told(-1, 0), NineLies.BAD);
        DUE.is("4 told bad", x.told(2, 0), NineLies.BAD);
        DUE.is("4 told bad", x.told(0, 3), NineLies.BAD);
        DUE.is("4 told bad", x.told(0, -1), NineLies.BAD);
        DUE.is("4 told bad", x.told(Integer.MAX_VALUE, 2), NineLies.BAD);
    }

    private static void strike() {
        NineLies x = Due.year("+1,-2,+3");
        DUE.is("5 strike", x.strike(), 2);
        DUE.is("5 struck", x.told(2, 1), NineLies.BAD);
        DUE.is("5 count", x.count(5), 1);
        DUE.is("5 strike", x.strike(), 1);
        DUE.is("5 strike", x.strike(), 0);
        DUE.is("5 strike none", x.strike(), NineLies.NONE);
        DUE.is("5 day", x.day(0, 4, 5), 0);
        DUE.is("5 told", x.told(0, 0), 0);
    }

    private static void set() {
        NineLies x = Due.year("-1/5,-1/5,-1/5");
        int[] most = {9, 3, 8};
        int[] first = {9, 0, 4};
        for (int what = 0; what < 3; what++) {
            DUE.is("6 set least", x.set(what, 0), first[what]);
            DUE.is("6 set most", x.set(what, most[what]), 0);
            DUE.is("6 set above", x.set(what, most[what] + 1), NineLies.BAD);
            DUE.is("6 set below", x.set(what, -1), NineLies.BAD);
            DUE.is("6 it stays", x.count(2 + what), most[what]);
        }
        DUE.is("6 set what", x.set(3, 0), NineLies.BAD);
        DUE.is("6 set what", x.set(3, 1), NineLies.BAD);
        DUE.is("6 set what", x.set(-1, 1), NineLies.BAD);
        DUE.is("6 the draw stays", x.seed(3), 1);
        x.set(0, 1);
        DUE.is("6 lies count", x.wrong(3), 1);
    }

    private static void type() {
        NineLies x = new NineLies();
        DUE.is("7 n 0", x.type(43, 0), NineLies.BAD);
        DUE.is("7 n 9", x.type(43, 9), NineLies.BAD);
        DUE.is("7 n 9", x.type(Due.packed("++++++++"), 9), NineLies.BAD);
        DUE.is("7 n below", x.type(43, Integer.MIN_VALUE), NineLies.BAD);
        DUE.is("7 n above", x.type(43, Integer.MAX_VALUE), NineLies.BAD);
        DUE.is("7 byte 31", x.type(31, 1), NineLies.BAD);
        DUE.is("7 byte 127", x.type(127, 1), NineLies.BAD);
        DUE.is("7 byte 255", x.type(-1L, 8), NineLies.BAD);
        DUE.is("7 byte 0 above", x.type(43, 2), NineLies.BAD);
        DUE.is("7 a middle byte", x.type(0x2B1F31L, 3), NineLies.BAD);
        DUE.is("7 the highest byte", x.type(0x7F2B2B2B2B2B2B2BL, 8), NineLies.BAD);
        DUE.is("7 bytes 32, 126", x.type(0x207EL, 2), 2);
        DUE.is("7 bytes that are not taken", x.type(0xFF002BL, 1), 3);
        DUE.is("7 tape", x.year(), -21);
        DUE.is("7 highest first", x.type(Due.packed("+1234567"), 8), 8);
        DUE.is("7 year", x.year(), -21);
        DUE.is("7 highest first", x.type(Due.packed("+12,-34/"), 8), 8);
        DUE.is("7 behind it", x.type(Due.packed("56"), 2), 10);
        DUE.is("7 year", x.year(), 2);
        DUE.is("7 worth", x.told(0, 1), 12);
        DUE.is("7 worth", x.told(1, 1), 34);
        DUE.is("7 cost", x.told(1, 2), 56);
        for (int i = 1; i <= 24; i++) {
            DUE.is("7 type", x.type(Due.packed("        "), 8), 8 * i);
        }
        DUE.is("7 type", x.type(Due.packed("       "), 7), 199);
        DUE.is("7 full", x.type(Due.packed("+1"), 2), NineLies.FULL);
        DUE.is("7 bad ahead of full", x.type(Due.packed("+\t"), 2), NineLies.BAD);
        DUE.is("7 the last byte", x.type(Due.packed(" "), 1), 200);
        DUE.is("7 full", x.type(Due.packed("+"), 1), NineLies.FULL);
        DUE.is("7 bad ahead of full", x.type(Due.packed("\t"), 1), NineLies.BAD);
        DUE.is("7 all blanks", x.year(), -220);
        DUE.is("7 empty then", x.type(Due.packed("+"), 1), 1);
    }

    private static void reads(String text, int... cells) {
        NineLies x = new NineLies();
        Due.type(x, text);
        DUE.is("8 year of '" + text + "'", x.year(), cells.length / 3);
        for (int i = 0; i < cells.length; i++) {
            DUE.is("8 told of '" + text + "'", x.told(i / 3, i % 3), cells[i]);
        }
        DUE.is("8 count of '" + text + "'", x.count(0), cells.length / 3);
    }

    private static void yearReads() {
        reads("+1", 1, 1, 0);
        reads("-0", 0, 0, 0);
        reads("+99/99,-98/1,+0/0", 1, 99, 99, 0, 98, 1, 1, 0, 0);
        reads("+007/0099,-00000000000000000000000000000000000012", 1, 7, 99, 0, 12, 0);
        reads("  +  1  /  2  ,  -  3  ", 1, 1, 2, 0, 3, 0);
        reads("-5/6 ,+7", 0, 5, 6, 1, 7, 0);
        int[] cells = new int[84];
        for (int d = 0; d < 28; d++) {
            cells[3 * d] = 1;
            cells[3 * d + 1] = 12;
            cells[3 * d + 2] = 3;
        }
        reads(Due.repeat("+12/3", 28, ","), cells);
        reads(Due.repeat("+12/3", 28, ",") + "   ", cells);
    }

    private static void fault(String text, int place) {
        NineLies x = Due.year("+11/2,-33/4");
        Due.type(x, text);
        DUE.is("8 fault of '" + text + "'", x.year(), -20 - place);
        DUE.is("8 days stay, '" + text + "'", x.count(0), 2);
        DUE.is("8 worth stays, '" + text + "'", x.told(1, 1), 33);
        DUE.is("8 worth stays, '" + text + "'", x.told(0, 1), 11);
        DUE.is("8 the tape is empty, '" + text + "'", x.type(43, 1), 1);
    }

    private static void yearFaults() {
        fault("", 0);
        fault("   ", 3);
        fault("1", 0);
        fault(",", 0);
        fault("/", 0);
        fault("  x", 2);
        fault("+", 1);
        fault("+ ", 2);
        fault("+x", 1);
        fault("+-1", 1);
        fault("+/1", 1);
        fault("+,", 1);
        fault("+1x", 2);
        fault("+1 2", 3);
        fault("+1 x", 3);
        fault("+1+2", 2);
        fault("+1-2", 2);
        fault("+100", 1);
        fault("+ 100", 2);
        fault("+100x", 1);
        fault("+0100", 1);
        fault("+10 0", 4);
        fault("+4294967297", 1);
        fault("+" + Due.repeat("9", 150, ""), 1);
        fault("+1/", 3);
        fault("+1/ ", 4);
        fault("+1/,", 3);
        fault("+1//2", 3);
        fault("+1/+2", 3);
        fault("+1/2/3", 4);
        fault("+1/2x", 4);
        fault("+1/2 3", 5);
        fault("+1/100", 3);
        fault("+1/ 100,-5", 4);
        fault("+1,", 3);
        fault("+1,,", 3);
        fault("+1, x", 4);
        fault("+1,2", 3);
        fault("+1,-100,x", 4);
        fault("+1,-2;", 5);
        fault("+:", 1);
        fault("+1:", 2);
        fault("*1", 0);
        fault(".1", 0);
        String most = Due.repeat("-12/3", 28, ",");
        fault(most + ",+1", 167);
        fault(most + ",", 167);
        fault(most + "  ,x", 169);
        fault(most + "/4", 167);
        fault(Due.repeat("-1", 28, ",") + "x", 83);
    }

    private static void yearKeeps() {
        NineLies x = Due.year("+1,+2,+3");
        x.set(0, 5);
        x.set(1, 2);
        x.set(2, 7);
        x.seed(77);
        Due.type(x, "-8/9");
        DUE.is("8 in place of all days", x.year(), 1);
        DUE.is("8 in place of all days", x.count(0), 1);
        DUE.is("8 lies stay", x.count(2), 5);
        DUE.is("8 the law stays", x.count(3), 2);
        DUE.is("8 trust stays", x.count(4), 7);
        DUE.is("8 the draw stays", x.seed(1), 77);
        DUE.is("8 year of nothing", x.year(), -20);
        DUE.is("8 told stays", x.told(0, 2), 9);
        Due.type(x, Due.repeat("+1", 28, ","));
        DUE.is("8 28 days", x.year(), 28);
        DUE.is("8 full then", x.day(0, 0, 0), NineLies.FULL);
    }

    private static void count() {
        NineLies x = Due.year("+10/3,-20/4,+5/50,-6/70,-7/0");
        int[] due = {5, 2, 9, 0, 4, 15, 74};
        for (int what = 0; what < due.length; what++) {
            DUE.is("9 count " + what, x.count(what), due[what]);
        }
        DUE.is("9 count -1", x.count(-1), NineLies.BAD);
        DUE.is("9 count 7", x.count(7), NineLies.BAD);
        DUE.is("9 count most", x.count(Integer.MAX_VALUE), NineLies.BAD);
        x.alter(1, 0, 1);
        DUE.is("9 news then", x.count(1), 3);
        DUE.is("9 worths then", x.count(5), 35);
        DUE.is("9 costs then", x.count(6), 70);
    }

    private static void may() {
        NineLies x = new NineLies();
        DUE.is("10 no day", x.may(0), 0);
        DUE.is("10 a day that is not", x.may(1), NineLies.BAD);
        x = Due.year(Due.repeat("-1/1", 28, ","));
        int all = (1 << 28) - 1;
        DUE.is("10 below 0", x.may(-1), NineLies.BAD);
        DUE.is("10 bit 28", x.may(1 << 28), NineLies.BAD);
        DUE.is("10 bit 31", x.may(Integer.MIN_VALUE), NineLies.BAD);
        DUE.is("10 free", x.may(0), all);
        DUE.is("10 free behind", x.may(Due.days(2, 5)), all & -64);
        DUE.is("10 behind the last day", x.may(1 << 27), 0);
        x.set(0, 0);
        DUE.is("10 whatever lies he has", x.may(1), all - 1);
        x.set(1, 1);
        DUE.is("10 sundays", x.may(0), all & ~Due.days(6, 13, 20, 27));
        DUE.is("10 sundays behind one", x.may(Due.days(6, 12)), all & -8192 & ~Due.days(13, 20, 27));
        x.set(1, 2);
        DUE.is("10 apart, none yet", x.may(0), all);
        DUE.is("10 apart", x.may(Due.days(2, 5)), all & -128);
        DUE.is("10 apart at the end", x.may(1 << 26), 0);
        x.set(1, 3);
        DUE.is("10 weeks, none yet", x.may(0), all);
        DUE.is("10 weeks", x.may(1), all & -128);
        DUE.is("10 weeks, its fifth day", x.may(1 << 5), all & -128);
        DUE.is("10 weeks are apart", x.may(1 << 6), all & -256);
        DUE.is("10 weeks, two", x.may(Due.days(0, 13)), all & -32768);
        DUE.is("10 weeks, the last", x.may(1 << 21), 0);
        x.set(1, 0);
        x.alter(4, 0, 1);
        x.alter(27, 0, 1);
        DUE.is("10 news", x.may(Due.days(2)), all & -8 & ~Due.days(4, 27));
        DUE.is("10 behind news", x.may(Due.days(4)), all & -32 & ~Due.days(27));
        x.strike();
        DUE.is("10 a day that is not", x.may(1 << 27), NineLies.BAD);
    }
}
