/** Promises 1 to 10 and THE TEXT of a YEAR, sentence by sentence. */
final class DaysSentences extends Sentences {
    private static final String TERMS = "Terms";

    static void all() {
        newObject();
        day();
        alter();
        alterRefused();
        told();
        strike();
        set();
        type();
        typeRefused();
        typeFull();
        yearText();
        yearFaults();
        yearNumbers();
        yearOf29();
        year();
        count();
        may();
    }

    private static void newObject() {
        about("Promise 1: A new object", "No day, nine lies.");
        Court x = new Court();
        int[] counts = {0, 0, 9, 0, 4, 0, 0};
        for (int what = 0; what < counts.length; what++) {
            is(x.count(what), counts[what]);
        }
        is(x.told(0, 0), BAD);
        is(x.may(0), 0);
        is(x.wrong(1), BAD);
        is(x.strike(), NONE);
        is(x.harm(), 0);
        is(x.price(), NOT - LESS);
        is(x.restore(), NONE);
        is(x.seed(1), 1);
        is(x.drop(0), NULL);
        tapeHas(x, 0);
        x.year();
        x.typeAll(times(10, "-1/1"));
        is(x.year(), 10);
        is(x.lawful(span(0, 8)), 1);
        is(x.wrong(span(0, 9)), 9);
        // what one object was told is not told to a new one
        Court y = new Court();
        is(y.count(0), 0);
        is(x.count(0), 10);
        x.set(0, 3);
        x.sheet(0, 0, 5);
        x.image();
        is(y.count(2), 9);
        is(y.drop(0), NULL);
        is(y.restore(), NONE);
        is(new Court().count(2), 9);
    }

    private static void day() {
        String part = "Promise 2: day";
        about(part, "A DAY (news 1, 0): its number.");
        Court x = new Court();
        for (int d = 0; d < 28; d++) {
            is(x.day(d % 2, 99 - d, 3 * d), d);
            is(x.count(0), d + 1);
        }
        for (int d = 0; d < 28; d++) {
            is(x.told(d, 0), d % 2);
            is(x.told(d, 1), 99 - d);
            is(x.told(d, 2), 3 * d);
        }
        about(part, "BAD;");
        for (int wild : WILD) {
            Court y = new Court();
            is(y.day(0, 0, 0), 0);
            is(y.day(1, 99, 99), 1);
            refused(y, () -> y.day(wild, 5, 5), BAD);
            refused(y, () -> y.day(1, wild, 5), BAD);
            refused(y, () -> y.day(1, 5, wild), BAD);
        }
        Court z = new Court();
        refused(z, () -> z.day(2, 5, 5), BAD);
        refused(z, () -> z.day(1, 100, 5), BAD);
        refused(z, () -> z.day(0, 5, 100), BAD);
        refused(z, () -> z.day(0, -1, 0), BAD);
        refused(z, () -> z.day(0, 0, -1), BAD);
        is(z.day(0, 5, 5), 0);
        about(part, "FULL: 28.");
        is(x.strike(), 27);
        is(x.day(1, 7, 8), 27);
        refused(x, () -> x.day(0, 0, 0), FULL);
        is(x.told(27, 1), 7);
        is(x.told(28, 1), BAD);
    }

    private static void alter() {
        about("Promise 3: alter", "Of a DAY: 0 whether it has NEWS (1, 0), 1 WORTH, 2 COST becomes v: what it was.");
        Court x = Court.of("+10/20,-30/40,+50/60");
        int[][] calls = {{0, 0, 0, 1}, {0, 0, 1, 0}, {1, 0, 1, 0}, {1, 0, 0, 1}, {0, 1, 0, 10}, {0, 1, 99, 0}, {0, 1, 11, 99},
            {2, 2, 99, 60}, {2, 2, 0, 99}, {2, 2, 61, 0}, {1, 1, 40, 30}, {1, 2, 30, 40}, {2, 0, 1, 1}};
        for (int[] c : calls) {
            is(x.alter(c[0], c[1], c[2]), c[3]);
            is(x.told(c[0], c[1]), c[2]);
        }
        same("the state", x.state(), "counts 3 2 9 0 4 61 30, 1 11 20, 0 40 30, 1 50 61, draw 1");
        Court all = Court.of(times(28, "+1/2"));
        is(all.alter(27, 1, 98), 1);
        is(all.alter(0, 1, 97), 1);
        is(all.told(26, 1), 1);
        is(all.told(27, 1), 98);
        is(all.told(0, 1), 97);
        is(all.count(5), 26 + 98 + 97);
    }

    private static void alterRefused() {
        about("Promise 3: alter", "BAD.");
        Court none = new Court();
        refused(none, () -> none.alter(0, 0, 0), BAD);
        Court x = Court.of("+10/20,-30/40");
        int[][] bad = {{-1, 1, 5}, {2, 1, 5}, {27, 1, 5}, {28, 1, 5}, {0, -1, 0}, {0, 3, 0}, {0, 0, 2}, {0, 0, -1},
            {1, 1, 100}, {1, 1, -1}, {1, 2, 100}, {1, 2, -1}, {LEAST, 1, 1}, {MOST, 1, 1}, {1431655766, 1, 1}, {0, LEAST, 1}, {0, MOST, 1},
            {0, 0, MOST}, {0, 1, MOST}, {0, 2, LEAST}};
        for (int[] b : bad) {
            Court y = Court.of("+10/20,-30/40");
            refused(y, () -> y.alter(b[0], b[1], b[2]), BAD);
        }
        is(x.alter(1, 2, 99), 40);
        is(x.alter(0, 0, 1), 1);
        is(x.strike(), 1);
        refused(x, () -> x.alter(1, 2, 7), BAD);
        is(x.day(0, 1, 2), 1);
        is(x.alter(1, 2, 7), 2);
        Court all = Court.of(times(28, "+1/2"));
        refused(all, () -> all.alter(28, 1, 5), BAD);
        is(all.alter(27, 1, 5), 1);
    }

    private static void told() {
        String part = "Promise 4: told";
        about(part, "Of a DAY likewise.");
        Court x = Court.of("+10/20,-0/99,-99/0");
        int[][] due = {{1, 10, 20}, {0, 0, 99}, {0, 99, 0}};
        for (int d = 0; d < 3; d++) {
            for (int what = 0; what < 3; what++) {
                is(x.told(d, what), due[d][what]);
            }
        }
        about(part, "BAD.");
        is(x.told(2, 2), 0);
        refused(x, () -> x.told(3, 2), BAD);
        refused(x, () -> x.told(-1, 0), BAD);
        refused(x, () -> x.told(2, 3), BAD);
        refused(x, () -> x.told(2, -1), BAD);
        for (int wild : WILD) {
            is(x.told(wild, 0), BAD);
            is(x.told(0, wild), BAD);
        }
        // three times this one wraps around to 2
        is(x.told(1431655766, 0), BAD);
        x.strike();
        is(x.told(2, 0), BAD);
        is(x.told(1, 2), 99);
        Court none = new Court();
        is(none.told(0, 0), BAD);
        Court all = Court.of(times(28, "+1/2"));
        is(all.told(27, 2), 2);
        is(all.told(28, 2), BAD);
        is(all.told(28, 0), BAD);
    }

    private static void strike() {
        String part = "Promise 5: strike";
        about(part, "The last DAY goes: how many there are.");
        Court x = Court.of(times(28, "+1/2"));
        for (int left = 27; left >= 0; left--) {
            is(x.strike(), left);
            is(x.count(0), left);
            is(x.told(left, 0), BAD);
            is(x.count(1), left);
            is(x.count(5), left);
        }
        goesWholly();
        about(part, "NONE: there was none.");
        refused(x, () -> x.strike(), NONE);
        refused(x, () -> x.strike(), NONE);
        is(x.day(0, 3, 4), 0);
        is(x.told(0, 1), 3);
        is(x.strike(), 0);
        is(x.strike(), NONE);
        Court y = new Court();
        refused(y, () -> y.strike(), NONE);
    }

    /** What a DAY had counts nowhere when it has gone. */
    private static void goesWholly() {
        Court x = Court.of("+1/2,-3/4,+5/6,-7/8,+9/10", 0, 0, 8);
        int[] days = {4, 3, 2, 1, 0};
        int[] news = {2, 2, 1, 1, 0};
        int[] worths = {6, 6, 1, 1, 0};
        int[] costs = {12, 4, 4, 0, 0};
        int[] trusted = {days(0, 2), days(0, 2), days(0), days(0), 0};
        int[] may = {days(1, 3), days(1), days(1), 0, 0};
        int[] harms = {6 - 8, 6 - 4, 1 - 4, 1, 0};
        int[] worsts = {days(3), days(1), days(1), 0, 0};
        x.sheet(0, 2, 28);
        for (int i = 0; i < days.length; i++) {
            is(x.harm(), worths[i] + (i == 0 ? 9 : i == 2 ? 5 : i == 4 ? 1 : 0));
            is(x.strike(), days[i]);
            int[] counts = {days[i], news[i], 0, 0, 8, worths[i], costs[i]};
            counts(x, counts);
            is(x.gain(0), worths[i]);
            is(x.trusted(0), trusted[i]);
            is(x.may(0), may[i]);
            is(x.harm(), worths[i]);
            is(x.worst(), 0);
            is(x.film(0, 0, 2, 28 - days[i]), days[i]);
            is(x.film(0, 0, 2, 29 - days[i]), INDEX);
            x.set(0, 1);
            is(x.harm(), harms[i]);
            is(x.worst(), worsts[i]);
            is(x.lawful(1 << days[i]), BAD);
            x.set(0, 0);
        }
        Court dear = Court.of("-0/1,-0/2,-0/4,-0/8", 1, 0, 8);
        int[] least = {-8, -4, -2, -1, 0};
        for (int i = 0; i < least.length; i++) {
            is(dear.harm(), least[i]);
            is(dear.worst(), i == 4 ? 0 : 1 << 3 - i);
            dear.strike();
        }
        Court all = Court.of(times(28, "-0/9"), 9, 0, 8);
        is(all.harm(), -81);
        for (int left = 27; left >= 5; left--) {
            all.strike();
        }
        // nine LIES left are too many to be TRUSTED on five DAYS
        is(all.harm(), 0);
        is(all.worst(), 0);
    }

    private static void set() {
        String part = "Promise 6: set";
        about(part, "0 LIES, 1 THE LAW, 2 TRUST becomes v: what it was.");
        Court x = Court.of("-1/5,-1/5,-1/5");
        int[] most = {9, 3, 8};
        int[] first = {9, 0, 4};
        for (int what = 0; what < 3; what++) {
            int was = first[what];
            for (int v = 0; v <= most[what]; v++) {
                is(x.set(what, v), was);
                is(x.count(2 + what), v);
                was = v;
            }
        }
        same("the state", x.state(), "counts 3 0 9 3 8 0 15, 0 1 5, 0 1 5, 0 1 5, draw 1");
        about(part, "BAD.");
        Court y = new Court();
        for (int what = 0; what < 3; what++) {
            int thing = what;
            is(y.set(what, most[what]), first[what]);
            refused(y, () -> y.set(thing, most[thing] + 1), BAD);
            refused(y, () -> y.set(thing, -1), BAD);
            for (int wild : WILD) {
                is(y.set(what, wild), BAD);
            }
            is(y.set(what, 0), most[what]);
        }
        refused(y, () -> y.set(-1, 0), BAD);
        refused(y, () -> y.set(3, 0), BAD);
        refused(y, () -> y.set(4, 0), BAD);
        refused(y, () -> y.set(LEAST, 0), BAD);
        refused(y, () -> y.set(MOST, 0), BAD);
    }

    private static void type() {
        about("Promise 7: type",
            "The n lowest bytes (1 .. 8) of w, of these the highest first, come behind THE TAPE: how many it has.");
        String text = "+12,-3/4";
        for (int n = 1; n <= 8; n++) {
            // bytes above the n lowest may be anything
            long above = n == 8 ? 0 : -1L << 8 * n;
            Court x = new Court();
            is(x.type(above | Due.packed(text.substring(0, n)), n), n);
            if (n < 8) {
                is(x.type(text.substring(n)), 8);
            }
            is(x.year(), 2);
            same("the state", x.state(), "counts 2 1 9 0 4 12 4, 1 12 0, 0 3 4, draw 1");
        }
        Court y = new Court();
        is(y.type(Due.packed("+12") << 8 | '4', 1), 1);
        is(y.year(), -20);
        is(y.type(0x2B352B36L, 2), 2);
        is(y.year(), 1);
        is(y.told(0, 1), 6);
    }

    private static void typeRefused() {
        about("Promise 7: type", "BAD: n, a byte not 32 .. 126;");
        Court x = new Court();
        long w = Due.packed("+1,-2/3,");
        is(x.type("+1"), 2);
        refused(x, () -> x.type(w, 0), BAD);
        refused(x, () -> x.type(w, 9), BAD);
        for (int wild : WILD) {
            is(x.type(w, wild), BAD);
        }
        int[] no = {0, 9, 31, 127, 128, 171, 255};
        for (int place = 0; place < 8; place++) {
            for (int sign : no) {
                is(x.type(w & ~(255L << 8 * place) | (long) sign << 8 * place, 8), BAD);
            }
        }
        is(x.type(31, 1), BAD);
        is(x.type(127, 1), BAD);
        is(x.type(-1L, 8), BAD);
        is(x.type(Long.MIN_VALUE, 8), BAD);
        is(x.type(",-2"), 5);
        is(x.year(), 2);
        same("the state", x.state(), "counts 2 1 9 0 4 1 0, 1 1 0, 0 2 0, draw 1");
        Court y = new Court();
        for (int place = 0; place < 8; place++) {
            is(y.type(w & ~(255L << 8 * place) | 32L << 8 * place, 8), 16 * place + 8);
            is(y.type(w & ~(255L << 8 * place) | 126L << 8 * place, 8), 16 * place + 16);
        }
        is(y.type(32, 1), 129);
        is(y.type(126, 1), 130);
    }

    private static void typeFull() {
        about("Promise 7: type", "FULL: 200.");
        for (int bytes = 1; bytes <= 8; bytes++) {
            int n = bytes;
            Court x = new Court();
            is(x.type("+5"), 2);
            for (int i = 1; i < 24; i++) {
                is(x.type("        "), 8 * i + 2);
            }
            // 186 now; up to one byte less than n are left free
            int room = n - 1;
            is(x.type("      "), 192);
            for (int had = 192; had < 200 - room; had++) {
                is(x.type(" "), had + 1);
            }
            refused(x, () -> x.type(Due.packed("xxxxxxxx"), n), FULL);
            if (room > 0) {
                is(x.type(Due.packed("        "), room), 200);
            }
            is(x.type("x"), FULL);
            is(x.year(), 1);
            is(x.told(0, 1), 5);
            is(x.type("x"), 1);
        }
        Court y = new Court();
        for (int i = 1; i <= 25; i++) {
            is(y.type("        "), 8 * i);
        }
        refused(y, () -> y.type("        "), FULL);
        is(y.year(), -220);
    }

    private static void reads(String text, String state) {
        Court x = Court.of("+9/9,-8/8,+7/7", 5, 2, 7);
        x.seed(77);
        x.typeAll(text);
        int many = state.split(", ").length;
        is(x.year(), many);
        String got = x.state();
        same("the YEAR of '" + text + "'", got.substring(got.indexOf(", ")), ", " + state + ", draw 77");
        is(x.count(2), 5);
        is(x.count(3), 2);
        is(x.count(4), 7);
        tapeHas(x, 0);
    }

    private static void fault(String text, int place) {
        Court x = Court.of("+9/9,-8/8,+7/7", 5, 2, 7);
        x.typeAll(text);
        String before = x.state();
        is(x.year(), -20 - place);
        same("the state behind the FAULT of '" + text + "'", x.state(), before);
        tapeHas(x, 0);
    }

    private static void yearText() {
        about(TERMS, "A YEAR is a TEXT: 1 to 28 DAYS with , between: + (NEWS) or - (none), a number 0 .. 99 (WORTH), "
            + "perhaps / and a number 0 .. 99 (COST; 0): in place of all DAYS.");
        fault("", 0);
        reads("+0", "1 0 0");
        reads("-0", "0 0 0");
        reads("+99", "1 99 0");
        fault("+100", 1);
        reads("-1/0", "0 1 0");
        reads("-1/99", "0 1 99");
        fault("-1/100", 3);
        reads("+1,-2/3", "1 1 0, 0 2 3");
        reads("+1/4,-2,+3,-99/99", "1 1 4, 0 2 0, 1 3 0, 0 99 99");
        fault("+1-2/3", 2);
        fault("+1;-2", 2);
        fault("1", 0);
        fault("*1", 0);
        fault(".1", 0);
        reads(times(27, "+1/2"), times(27, " 1 1 2").strip());
        reads(times(28, "+1/2"), times(28, " 1 1 2").strip());
        fault(times(29, "+1/2"), 28 * 5 - 1);
    }

    private static void yearFaults() {
        about(TERMS, "FAULTS: -20 less the place of the first byte (blanks do not count, but end a number) "
            + "that can't stand there (the end: how many bytes there are);");
        // where a DAY is due
        fault("x", 0);
        fault("0", 0);
        fault("/", 0);
        fault(",", 0);
        fault("  x", 2);
        fault("   ", 3);
        fault(" ", 1);
        fault("+1,", 3);
        fault("+1, ", 4);
        fault("+1,,", 3);
        fault("+1,  ,", 5);
        fault("+1,5", 3);
        fault("+1,/5", 3);
        // where a number is due
        fault("+", 1);
        fault("-", 1);
        fault("+ ", 2);
        fault("+x", 1);
        fault("+ x", 2);
        fault("++", 1);
        fault("+-", 1);
        fault("+,", 1);
        fault("+/", 1);
        fault("+:", 1);
        fault("+1/", 3);
        fault("+1/ ", 4);
        fault("+1/x", 3);
        fault("+1/,", 3);
        fault("+1//", 3);
        fault("+1/+", 3);
        fault("+1/-2", 3);
        // behind a number
        fault("+1x", 2);
        fault("+1 x", 3);
        fault("+1+", 2);
        fault("+1:", 2);
        fault("+1/2/", 4);
        fault("+1/2/3", 4);
        fault("+1/2x", 4);
        fault("+1/2+3", 4);
        fault("+1/2 /", 5);
        // blanks do not count, but end a number
        reads(" + 1 / 2 , - 3 ", "1 1 2, 0 3 0");
        reads("   +1", "1 1 0");
        reads("+1   ", "1 1 0");
        reads("+  12  /  34  ,  -  56", "1 12 34, 0 56 0");
        reads("+12", "1 12 0");
        fault("+1 2", 3);
        fault("+1  2", 4);
        fault("+1/2 3", 5);
        fault("+1/22 3", 6);
        fault("+1,-2,+3/4;", 10);
        fault(times(50, "+1").substring(0, 80) + "~", 80);
    }

    private static void yearNumbers() {
        about(TERMS, "of a number that may not be its first byte;");
        reads("+99/99", "1 99 99");
        fault("+100", 1);
        fault("+ 100", 2);
        fault("+100/5", 1);
        fault("+100x", 1);
        fault("+999", 1);
        fault("+990", 1);
        fault("+1/100", 3);
        fault("+1/ 100", 4);
        fault("+1/100,x", 3);
        fault("-5,+100", 4);
        fault("-5/6,+7/256", 8);
        // numbers that wrap around to small ones
        fault("+256", 1);
        fault("+65541", 1);
        fault("+4294967296", 1);
        fault("+4294967301", 1);
        fault("+18446744073709551616", 1);
        fault("+" + Due.repeat("9", 199, ""), 1);
        fault("+" + Due.repeat("0", 196, "") + "100", 1);
        about(TERMS, "(Numbers may begin with 0.)");
        reads("+007", "1 7 0");
        reads("+00", "1 0 0");
        reads("+099/0099", "1 99 99");
        fault("+0100", 1);
        fault("+1/00100", 3);
        reads("+" + Due.repeat("0", 197, "") + "42", "1 42 0");
    }

    private static void yearOf29() {
        about(TERMS, "of a 29th DAY the , ahead of it.");
        String most = times(28, "-1/2");
        reads(most, times(28, " 0 1 2").strip());
        reads(most + "  ", times(28, " 0 1 2").strip());
        fault(most + ",-1/2", 139);
        fault(most + ",+1", 139);
        fault(most + " ,-1", 140);
        fault(most + "   , -1/2", 142);
        fault(most + ",-1/2,-1/2", 139);
        fault(most + "x", 139);
        fault(most + "/", 139);
        fault(times(27, "-1/2") + ",x", 135);
        fault(times(27, "-1/2") + ",-1/2/", 139);
        fault(times(29, "+1"), 83);
    }

    private static void year() {
        String part = "Promise 8: year";
        about(part, "THE TAPE, which is empty then (whatever is answered), is a YEAR: how many DAYS.");
        Court x = new Court();
        is(x.type("+1,-2/3"), 7);
        is(x.year(), 2);
        same("the state", x.state(), "counts 2 1 9 0 4 1 3, 1 1 0, 0 2 3, draw 1");
        tapeHas(x, 0);
        is(x.type("x"), 2);
        is(x.year(), -21);
        tapeHas(x, 0);
        is(x.type("-7"), 3);
        is(x.year(), 1);
        is(x.told(0, 1), 7);
        is(x.told(1, 1), BAD);
        is(x.year(), -20);
        is(x.count(0), 1);
        about(part, "A FAULT (those told stay).");
        x.typeAll("+5,+6,+7x");
        refused(x, () -> x.year(), -28);
        is(x.count(0), 1);
        is(x.told(0, 1), 7);
        refused(x, () -> x.year(), -20);
        Court none = new Court();
        none.typeAll("+5,+6,");
        refused(none, () -> none.year(), -26);
        is(none.count(0), 0);
        none.typeAll("+5,+6");
        is(none.year(), 2);
        Court all = Court.of(times(28, "-3/4"));
        all.typeAll("+5,");
        refused(all, () -> all.year(), -23);
        is(all.count(0), 28);
        is(all.told(0, 1), 3);
        all.typeAll("+5");
        is(all.year(), 1);
        is(all.count(0), 1);
    }

    private static void count() {
        String part = "Promise 9: count";
        about(part, "How many: 0 DAYS, 1 of them with NEWS, 2 LIES, 3 THE LAW, 4 TRUST, 5 WORTHS of NEWS together, "
            + "6 COSTS of DAYS without NEWS together.");
        counts(new Court(), 0, 0, 9, 0, 4, 0, 0);
        counts(Court.of("+10/20"), 1, 1, 9, 0, 4, 10, 0);
        counts(Court.of("-10/20"), 1, 0, 9, 0, 4, 0, 20);
        counts(Court.of("-10/20,+1/2,+4/8,-0/5", 0, 3, 8), 4, 2, 0, 3, 8, 5, 25);
        counts(Court.of(times(28, "+99/99"), 9, 0, 0), 28, 28, 9, 0, 0, 28 * 99, 0);
        counts(Court.of(times(28, "-99/99"), 1, 2, 1), 28, 0, 1, 2, 1, 0, 28 * 99);
        about(part, "BAD.");
        Court x = Court.of("-10/20,+1/2");
        is(x.count(0), 2);
        is(x.count(6), 20);
        refused(x, () -> x.count(-1), BAD);
        refused(x, () -> x.count(7), BAD);
        for (int wild : WILD) {
            is(x.count(wild), BAD);
        }
    }

    private static void counts(Court x, int... due) {
        for (int what = 0; what < due.length; what++) {
            is(x.count(what), due[what]);
        }
    }

    private static void may() {
        String part = "Promise 10: may";
        about(part, "DAYS behind the last of a set (of the empty one all) on which he may LIE by THE LAW next, "
            + "if he LIED on those of the set, whatever LIES he has, as a set.");
        Court x = Court.of(times(28, "-1/1"));
        is(x.may(0), ALL_DAYS);
        is(x.may(days(0)), span(1, 27));
        is(x.may(days(26)), days(27));
        is(x.may(days(27)), 0);
        is(x.may(ALL_DAYS), 0);
        is(x.may(days(3, 1, 20)), span(21, 27));
        x.set(0, 0);
        is(x.may(0), ALL_DAYS);
        is(x.may(span(0, 19)), span(20, 27));
        x.set(1, 1);
        is(x.may(days(5)), span(7, 26) - days(13, 20));
        is(x.may(days(6)), span(7, 26) - days(13, 20));
        x.set(1, 2);
        is(x.may(days(5)), span(7, 27));
        is(x.may(days(4, 5)), span(7, 27));
        is(x.may(days(25)), days(27));
        is(x.may(days(26)), 0);
        x.set(1, 3);
        is(x.may(days(0)), span(7, 27));
        is(x.may(days(0, 1, 2)), span(7, 27));
        is(x.may(days(6)), span(8, 27));
        is(x.may(days(7)), span(14, 27));
        is(x.may(days(20)), span(22, 27));
        is(x.may(days(21)), 0);
        x.alter(8, 0, 1);
        is(x.may(days(6)), span(9, 27));
        is(x.may(days(8)), span(14, 27));
        is(x.may(0), ALL_DAYS - days(8));
        about(part, "BAD: also a DAY that there is not.");
        Court z = Court.of(times(28, "-1/1"));
        is(z.may(1 << 27), 0);
        refused(z, () -> z.may(1 << 28), BAD);
        refused(z, () -> z.may(1 << 28 | 1), BAD);
        is(z.may(1 << 31), BAD);
        is(z.may(-1), BAD);
        Court y = Court.of("-1,-1,-1");
        is(y.may(days(2)), 0);
        is(y.may(days(3)), BAD);
        is(y.may(days(0, 3)), BAD);
        is(y.may(days(0, 27)), BAD);
        is(y.may(1 << 31), BAD);
        y.strike();
        is(y.may(days(2)), BAD);
        is(y.may(days(1)), 0);
        Court none = new Court();
        is(none.may(0), 0);
        is(none.may(1), BAD);
        is(none.may(-1), BAD);
    }
}
