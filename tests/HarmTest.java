/** Promises 11 to 21: harm, trust, the foot, bets. */
public final class HarmTest {
    private static final Due DUE = new Due();

    public static void main(String[] args) {
        lawful();
        laws();
        gain();
        trustEdge();
        harm();
        ties();
        best();
        price();
        under();
        sure();
        bet();
        DUE.end();
    }

    private static void judge(NineLies x, String name, int set, int wrong) {
        DUE.is("11 " + name, x.lawful(set), wrong == NineLies.NONE ? 1 : 0);
        DUE.is("12 " + name, x.wrong(set), wrong);
        if (wrong != NineLies.NONE) {
            DUE.is("13 " + name, x.gain(set), -100000002);
            DUE.is("14 " + name, x.trusted(set), NineLies.NOT);
        }
    }

    private static void bad(NineLies x, String name, int set) {
        DUE.is("11 " + name, x.lawful(set), NineLies.BAD);
        DUE.is("12 " + name, x.wrong(set), NineLies.BAD);
        DUE.is("13 " + name, x.gain(set), -100000001);
        DUE.is("14 " + name, x.trusted(set), NineLies.BAD);
    }

    private static void lawful() {
        NineLies x = Due.year("-1,+1,-1,-1,-1");
        bad(x, "a day that is not", 1 << 5);
        bad(x, "also a day that is not", Due.days(0, 27));
        bad(x, "bit 28", 1 << 28);
        bad(x, "bit 31", Integer.MIN_VALUE);
        bad(x, "below 0", -1);
        judge(x, "none", 0, NineLies.NONE);
        judge(x, "one", 1, NineLies.NONE);
        judge(x, "news", Due.days(0, 1, 2), 1);
        judge(x, "all but news", Due.days(0, 2, 3, 4), NineLies.NONE);
        x.set(0, 4);
        judge(x, "just as many as LIES", Due.days(0, 2, 3, 4), NineLies.NONE);
        x.set(0, 2);
        judge(x, "none left", Due.days(0, 2, 3, 4), 3);
        judge(x, "none left", Due.days(0, 3, 4), 4);
        judge(x, "news ahead of none left", Due.days(0, 1, 2, 3), 1);
        x.set(0, 0);
        judge(x, "no LIES", Due.days(2), 2);
        judge(x, "no LIES, none told", 0, NineLies.NONE);
    }

    private static void laws() {
        NineLies x = Due.year(Due.repeat("-1/1", 28, ","));
        judge(x, "free", Due.days(5, 6, 7, 13, 20, 27), NineLies.NONE);
        x.set(1, 1);
        for (int d = 0; d < 28; d++) {
            boolean sunday = d == 6 || d == 13 || d == 20 || d == 27;
            judge(x, "sundays " + d, 1 << d, sunday ? d : NineLies.NONE);
        }
        judge(x, "sundays, days in a row", Due.days(0, 1, 2, 7, 8), NineLies.NONE);
        x.set(1, 2);
        judge(x, "apart", Due.days(0, 2, 4, 6, 13, 20, 27), NineLies.NONE);
        judge(x, "apart", Due.days(0, 2, 3, 6), 3);
        judge(x, "apart over a week's end", Due.days(6, 7), 7);
        x.set(1, 3);
        judge(x, "weeks", Due.days(0, 7, 14, 21), NineLies.NONE);
        judge(x, "weeks", Due.days(6, 13, 20, 27), NineLies.NONE);
        judge(x, "weeks", Due.days(0, 6), 6);
        judge(x, "weeks", Due.days(1, 9, 11), 11);
        judge(x, "weeks are apart", Due.days(6, 7), 7);
        judge(x, "weeks are apart", Due.days(6, 8), NineLies.NONE);
        judge(x, "weeks, the last one", Due.days(0, 21, 27), 27);
    }

    private static void gain() {
        NineLies x = Due.year("+10/3,-0/20,-5/7,+9,-1/99");
        x.set(0, 2);
        x.set(2, 8);
        // D is 5, 4, 3, 2, 1: with TRUST 8 a WORD is TRUSTED while LIES left are no more than D
        DUE.is("13 none", x.gain(0), 19);
        DUE.is("14 none", x.trusted(0), Due.days(0, 3));
        DUE.is("13 one", x.gain(Due.days(1)), 10 - 20 + 9);
        DUE.is("14 one", x.trusted(Due.days(1)), Due.days(0, 1, 3));
        DUE.is("13 two", x.gain(Due.days(1, 2)), 10 - 20 - 7 + 9);
        DUE.is("13 the last", x.gain(Due.days(4)), 19);
        DUE.is("14 the last", x.trusted(Due.days(4)), Due.days(0, 3));
        DUE.is("13 two with the last", x.gain(Due.days(2, 4)), 10 - 7 + 9 - 99);
        DUE.is("14 two with the last", x.trusted(Due.days(2, 4)), Due.days(0, 2, 3, 4));
        x.set(2, 4);
        // 2 L <= D: L 2 on DAYS 0, 1; L 1 on DAYS 0 .. 3; L 0 on all
        DUE.is("13 trust 4", x.gain(0), 10);
        DUE.is("13 trust 4, one", x.gain(Due.days(1)), 10 - 20 + 9);
        DUE.is("13 trust 4, two", x.gain(Due.days(1, 4)), 10 - 20 + 9);
        DUE.is("14 trust 4, two", x.trusted(Due.days(1, 4)), Due.days(0, 1, 3));
        DUE.is("13 trust 4, an untrusted one", x.gain(Due.days(2)), 10 + 9);
        x.set(2, 0);
        DUE.is("13 no trust", x.gain(Due.days(1)), 0);
        DUE.is("13 no trust, none left", x.gain(Due.days(1, 2)), 9);
        DUE.is("14 no trust, none left", x.trusted(Due.days(1, 2)), Due.days(3));
        x.set(0, 0);
        DUE.is("13 no lies, no trust", x.gain(0), 19);
    }

    private static void trustEdge() {
        NineLies x = Due.year("+1,+1,+1,+1,+1,+1,+1,+1,+1,+1");
        for (int lies = 0; lies <= 9; lies++) {
            for (int trust = 0; trust <= 8; trust++) {
                x.set(0, lies);
                x.set(2, trust);
                int due = 0;
                for (int d = 0; d < 10; d++) {
                    due |= 8 * lies <= trust * (10 - d) ? 1 << d : 0;
                }
                DUE.is("14 " + lies + " lies, trust " + trust, x.trusted(0), due);
                DUE.is("13 " + lies + " lies, trust " + trust, x.gain(0), Integer.bitCount(due));
            }
        }
    }

    private static void harm() {
        NineLies x = new NineLies();
        DUE.is("15 no day", x.harm(), 0);
        DUE.is("16 no day", x.worst(), 0);
        DUE.is("17 no day", x.best(), 0);
        x = Due.year("-0/20,-0/30,+9");
        x.set(0, 1);
        x.set(2, 8);
        DUE.is("15 below 0", x.harm(), -21);
        DUE.is("16 the dearest", x.worst(), Due.days(1));
        x.set(0, 0);
        DUE.is("15 no lies", x.harm(), 9);
        DUE.is("16 no lies", x.worst(), 0);
        x.set(0, 3);
        // L 3 of D 3, then L 2 of D 2, then L 1 of D 1 are TRUSTED; staying silent once ends all TRUST
        DUE.is("15 three", x.harm(), -41);
        DUE.is("16 three", x.worst(), Due.days(0, 1));
        x = Due.year("-0/5,-0/6,-0/7,-0/8,-0/9,-0/9,-0/9,-0/90,-0/99");
        x.set(0, 2);
        x.set(1, 3);
        x.set(2, 8);
        DUE.is("15 weeks", x.harm(), -108);
        DUE.is("16 weeks", x.worst(), Due.days(6, 8));
        x.set(1, 2);
        DUE.is("15 apart", x.harm(), -108);
        DUE.is("16 apart", x.worst(), Due.days(6, 8));
        x.set(1, 1);
        DUE.is("15 sundays", x.harm(), -189);
        DUE.is("16 sundays", x.worst(), Due.days(7, 8));
        x = Due.year("-0/50,+9,-0/1");
        x.set(1, 2);
        x.set(0, 1);
        x.set(2, 3);
        // 8 L <= 3 D: a WORD is TRUSTED with L 1 on DAY 0 alone, with L 0 on each
        DUE.is("15 news just behind a lie", x.harm(), -50 + 9);
        DUE.is("16 news just behind a lie", x.worst(), Due.days(0));
        DUE.is("15 the same, weeks", x.under(3), -50 + 9);
        x.set(0, 2);
        x.set(2, 8);
        DUE.is("15 news between lies", x.harm(), -50 + 9 - 1);
        DUE.is("16 news between lies", x.worst(), Due.days(0, 2));
        DUE.is("15 the same, weeks", x.under(3), -50 + 9);
        x = Due.year("-0/50,+1,+2,+4,+8,+16,+32,-0/64,+99");
        x.set(0, 2);
        x.set(1, 3);
        x.set(2, 8);
        DUE.is("15 news of a week", x.harm(), -50 + 63 - 64 + 99);
        DUE.is("16 news of a week", x.worst(), Due.days(0, 7));
        NineLies y = Due.year(Due.repeat("-0/99", 28, ","));
        y.set(2, 8);
        DUE.is("15 nine of 28", y.harm(), -891);
        DUE.is("16 nine of 28", y.worst(), ((1 << 9) - 1) << 19);
        y.set(1, 1);
        DUE.is("16 nine of 28, sundays", y.worst(), Due.days(26, 25, 24, 23, 22, 21, 19, 18, 17));
        y.set(1, 2);
        DUE.is("15 nine of 28, apart", y.harm(), -891);
    }

    private static void ties() {
        NineLies x = Due.year("-0/5,-0/5,-0/0,-0/5,-0/5");
        x.set(0, 1);
        x.set(2, 8);
        DUE.is("16 the latest of like ones", x.worst(), Due.days(4));
        x.set(0, 2);
        DUE.is("16 two, the latest", x.worst(), Due.days(3, 4));
        x.set(1, 2);
        DUE.is("16 two apart", x.worst(), Due.days(1, 4));
        x.set(0, 0);
        DUE.is("16 none", x.worst(), 0);
        NineLies y = Due.year("-0/0,-0/0,-0/0");
        y.set(0, 2);
        y.set(2, 8);
        DUE.is("16 lies that cost nothing", y.worst(), 0);
        NineLies z = Due.year("-0/0,+9");
        z.set(0, 1);
        z.set(2, 8);
        DUE.is("15 a lie that wins him trust", z.harm(), 9);
        DUE.is("16 a lie that wins him trust", z.worst(), 0);
        z.set(2, 7);
        // L 1 is TRUSTED no more on the last DAY, so that silence does most HARM
        DUE.is("15 silence", z.harm(), 0);
        DUE.is("16 silence", z.worst(), 0);
        NineLies w = Due.year("-0/1,+9,-0/0");
        w.set(0, 1);
        w.set(2, 1);
        DUE.is("15 an untrusted word", w.harm(), 0);
        DUE.is("16 an untrusted word", w.worst(), 0);
    }

    private static void best() {
        NineLies x = Due.year("+10,+10,+10,-0/1");
        x.set(0, 1);
        // 8 <= T D for D 4, 3, 2, 1: 10 of NEWS by T 2, 20 by 3, 30 by 4 to 7, 29 by 8
        int[] harms = {0, 0, 10, 20, 30, 30, 30, 30, 29};
        for (int trust = 0; trust < 9; trust++) {
            x.set(2, trust);
            DUE.is("15 trust " + trust, x.harm(), harms[trust]);
            DUE.is("17 whatever trust is", x.best(), 4);
            DUE.is("17 trust stays", x.count(4), trust);
        }
        NineLies y = Due.year("-0/50,-0/50");
        DUE.is("17 the least", y.best(), 0);
        NineLies w = Due.year(Due.repeat("+1", 8, ","));
        w.set(0, 1);
        // 8 <= T D: one of NEWS by T 1, four by 2, all by 8
        DUE.is("17 eight days", w.best(), 8);
        w.alter(0, 1, 99);
        w.alter(7, 0, 0);
        w.alter(7, 2, 50);
        for (int d = 1; d < 7; d++) {
            w.alter(d, 1, 0);
        }
        DUE.is("17 just one", w.best(), 1);
        NineLies z = Due.year("+9");
        z.set(0, 1);
        DUE.is("17 the most", z.best(), 8);
        z.set(0, 0);
        DUE.is("17 no lies", z.best(), 0);
    }

    private static void price() {
        NineLies x = Due.year("-0/20,-0/30,+9,-0/1");
        DUE.is("18 nine", x.price(), -100000002);
        x.set(0, 8);
        DUE.is("18 eight", x.price(), 0);
        x.set(2, 8);
        x.set(0, 0);
        DUE.is("18 the first", x.price(), 9 - (9 - 30));
        x.set(0, 1);
        DUE.is("18 the second", x.price(), 20);
        DUE.is("18 lies stay", x.count(2), 1);
        NineLies y = Due.year("-0/30,-0/20");
        y.set(2, 8);
        y.set(0, 2);
        // with three LIES nothing is TRUSTED: he does no HARM
        DUE.is("18 below 0", y.price(), -50);
    }

    private static void under() {
        NineLies x = Due.year("-0/5,-0/6,-0/7,-0/8,-0/9,-0/9,-0/90,-0/80,-0/1");
        x.set(0, 2);
        x.set(2, 8);
        int[] due = {-170, -89, -99, -91};
        for (int law = 0; law < 4; law++) {
            for (int now = 0; now < 4; now++) {
                x.set(1, now);
                DUE.is("19 under " + law, x.under(law), due[law]);
                DUE.is("19 the law stays", x.count(3), now);
            }
        }
        for (int law = 0; law < 4; law++) {
            x.set(1, law);
            DUE.is("15 law " + law, x.harm(), due[law]);
        }
        DUE.is("19 bad", x.under(-1), -100000001);
        DUE.is("19 bad", x.under(4), -100000001);
        DUE.is("19 bad", x.under(Integer.MIN_VALUE), -100000001);
    }

    private static void sure(int f, int g, int lies, int words, int above, int below) {
        NineLies x = new NineLies();
        String call = "20 " + f + " " + g + " " + lies + " " + words;
        DUE.is(call + " above", x.sure(f, g, lies, words, 0), above);
        DUE.is(call + " below", x.sure(f, g, lies, words, 1), below);
    }

    private static void sure() {
        sure(8, 8, 1, 2, 1, 2);
        sure(6, 2, 3, 12, 1, 2);
        sure(5, 3, 2, 9, 10, 31);
        sure(8, 0, 1, 99, 1, 1);
        sure(0, 8, 5, 9, 0, 1);
        sure(0, 3, 0, 99, 0, 1);
        sure(7, 0, 99, 99, 1, 1);
        sure(1, 8, 1, 99, 1, 785);
        sure(8, 7, 98, 99, 112, 113);
        sure(5, 3, 1, 1, 1, 1);
        sure(5, 3, 0, 1, 0, 1);
        sure(0, 1, 0, 1, 0, 1);
        sure(0, 0, 5, 9, NineLies.NONE, NineLies.NONE);
        sure(0, 8, 9, 9, NineLies.NONE, NineLies.NONE);
        sure(8, 0, 0, 9, NineLies.NONE, NineLies.NONE);
        int[][] bad = {{-1, 0, 0, 9}, {9, 1, 1, 9}, {1, -1, 1, 9}, {1, 9, 1, 9}, {1, 1, -1, 9}, {1, 1, 100, 100},
            {1, 1, 0, 0}, {1, 1, 0, -1}, {1, 1, 1, 100}, {1, 1, 10, 9}, {0, 0, 10, 9}};
        for (int[] b : bad) {
            sure(b[0], b[1], b[2], b[3], NineLies.BAD, NineLies.BAD);
        }
        NineLies x = new NineLies();
        DUE.is("20 part", x.sure(1, 1, 1, 2, 2), NineLies.BAD);
        DUE.is("20 part", x.sure(1, 1, 1, 2, -1), NineLies.BAD);
        DUE.is("20 bad ahead of none", x.sure(0, 0, 1, 2, 2), NineLies.BAD);
    }

    private static void bet(int x, int y, int a, int b) {
        NineLies court = new NineLies();
        DUE.is("21 bet " + x + " " + y + " a", court.bet(x, y, 0), a);
        DUE.is("21 bet " + x + " " + y + " b", court.bet(x, y, 1), b);
    }

    private static void bet() {
        bet(2, 2, 1, 1);
        bet(99, 99, 1, 1);
        bet(1, 2, 3, 2);
        bet(2, 1, 2, 3);
        bet(1, 3, 2, 1);
        bet(3, 1, 1, 2);
        bet(1, 99, 2, 1);
        bet(0, 0, NineLies.NONE, NineLies.NONE);
        bet(1, 1, NineLies.NONE, NineLies.NONE);
        bet(0, 99, NineLies.NONE, NineLies.NONE);
        bet(99, 0, NineLies.NONE, NineLies.NONE);
        bet(-1, 5, NineLies.BAD, NineLies.BAD);
        bet(100, 5, NineLies.BAD, NineLies.BAD);
        bet(5, -1, NineLies.BAD, NineLies.BAD);
        bet(5, 100, NineLies.BAD, NineLies.BAD);
        NineLies x = new NineLies();
        DUE.is("21 what", x.bet(2, 2, 2), NineLies.BAD);
        DUE.is("21 what", x.bet(2, 2, -1), NineLies.BAD);
        DUE.is("21 bad ahead of none", x.bet(0, 0, 2), NineLies.BAD);
    }
}
