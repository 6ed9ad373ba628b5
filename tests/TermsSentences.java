import java.lang.reflect.Constructor;
import java.lang.reflect.Method;
import java.lang.reflect.Modifier;
import java.util.ArrayList;
import java.util.Collections;
import java.util.List;

/** The terms, sentence by sentence: refusals, the YEAR, LAWS, THE COURT. */
final class TermsSentences extends Sentences {
    private static final String TERMS = "Terms";

    static void all() {
        constants();
        face();
        manyCalls();
        firstNamed();
        badNotFullNoneCast();
        machine();
        lessByMany();
        changesNothing();
        setsAreBits();
        fractions();
        yearOfDays();
        lies();
        newsAndWords();
        lawFree();
        lawSundays();
        lawApart();
        lawWeeks();
        freeAtFirst();
        courtKnows();
        courtTrusts();
        courtHas();
        lawfulRow();
        gainOfRow();
        sheetsAtFirst();
    }

    private static void constants() {
        about("The public face", "public static final int BAD = -1, NOT = -2, FULL = -3, NONE = -4, "
            + "NULL = -11, CAST = -12, INDEX = -13, SIZE = -14;");
        int[] told = {NineLies.BAD, NineLies.NOT, NineLies.FULL, NineLies.NONE,
            NineLies.NULL, NineLies.CAST, NineLies.INDEX, NineLies.SIZE};
        int[] due = {-1, -2, -3, -4, -11, -12, -13, -14};
        for (int i = 0; i < due.length; i++) {
            is(told[i], due[i]);
        }
    }

    private static void face() {
        List<String> told = new ArrayList<>();
        for (Constructor<?> made : NineLies.class.getDeclaredConstructors()) {
            told.add(Modifier.toString(made.getModifiers()) + " NineLies(" + typesOf(made.getParameterTypes()) + ");");
        }
        for (Method method : NineLies.class.getDeclaredMethods()) {
            if (!Modifier.isPrivate(method.getModifiers())) {
                told.add(Modifier.toString(method.getModifiers()) + " " + method.getReturnType().getName() + " "
                    + method.getName() + "(" + typesOf(method.getParameterTypes()) + ");");
            }
        }
        List<String> due = declaredTypes();
        Collections.sort(told);
        Collections.sort(due);
        same("the face", told.toString(), due.toString());
        is(due.size(), 33);
    }

    /** What the document declares, each quoted, with the types of its parameters alone. */
    private static List<String> declaredTypes() {
        List<String> all = new ArrayList<>();
        for (String line : declared()) {
            about("The public face", line);
            String name = line.substring(line.lastIndexOf(' ', line.indexOf('(')) + 1, line.indexOf('('));
            is(line.startsWith("public ") ? 1 : 0, 1);
            is(line.contains(" int " + name + "(") || name.equals("NineLies") ? 1 : 0, 1);
            all.add(line.replaceAll("(int|long) \\w+([,)])", "$1$2"));
        }
        return all;
    }

    private static String typesOf(Class<?>[] types) {
        StringBuilder all = new StringBuilder();
        for (Class<?> type : types) {
            all.append(all.length() == 0 ? "" : ", ").append(type.getName());
        }
        return all.toString();
    }

    private static void manyCalls() {
        about("What it is", "An object is used for at most 512 calls after it has been made; what later calls answer is free.");
        Court x = new Court();
        x.sheet(3, 1, 28);
        for (int d = 0; d < 28; d++) {
            is(x.day(0, 99, 99), d);
        }
        x.setAll(9, 2, 8);
        while (x.calls() < Court.MOST_CALLS - 3) {
            is(x.harm(), -891);
        }
        is(x.lots(), lotsFrom(1));
        is(x.film(0, 3, 1, 0), 28);
        is(x.calls(), Court.MOST_CALLS - 1);
        is(x.worst(), days(11, 13, 15, 17, 19, 21, 23, 25, 27));
        is(x.calls(), Court.MOST_CALLS);
    }

    /** LOTS of 28 DAYS without NEWS by APART with nine LIES, told by the sentence's words. */
    private static int lotsFrom(long draw) {
        int set = 0;
        for (int d = 0; d < 28; d++) {
            draw = (draw * 1103515245L + 12345L) % 2147483648L;
            int left = 9 - Integer.bitCount(set);
            boolean apart = d == 0 || (set >> (d - 1) & 1) == 0;
            if (apart && draw / 65536 % (28 - d) < left) {
                set |= 1 << d;
            }
        }
        return set;
    }

    private static void firstNamed() {
        about(TERMS, "Refusals are answers, of several the first that a call names:");
        Court full = Court.of(times(28, "+1"));
        is(full.day(2, 0, 0), BAD);
        is(full.day(1, 0, 0), FULL);
        is(full.gain(days(0, 28)), BAD - LESS);
        is(full.gain(days(0)), NOT - LESS);
        is(full.trusted(days(0, 28)), BAD);
        is(full.trusted(days(0)), NOT);
        is(full.wrong(days(0, 28)), BAD);
        is(full.wrong(days(0)), 0);
        for (int i = 0; i < 25; i++) {
            full.type("        ");
        }
        is(full.type("\t"), BAD);
        is(full.type(Due.packed("+"), 9), BAD);
        is(full.type("+"), FULL);
        is(full.sure(0, 0, 1, 2, 2), BAD);
        is(full.sure(0, 0, 3, 2, 0), BAD);
        is(full.sure(0, 0, 2, 2, 0), NONE);
        is(full.bet(0, 0, 2), BAD);
        is(full.bet(0, 0, 0), NONE);
        is(full.surely(7, 0, 0, 4, 2), BAD);
        is(full.surely(7, 0, 0, 4, 1), NONE);
        sheetsFirstNamed();
    }

    private static void sheetsFirstNamed() {
        Court x = Court.of("-1,-1,+1");
        x.row(0, 1, 0, 0);
        is(x.judged(1, 3, 9, 10), BAD - LESS);
        is(x.judged(1, 1, 9, 10), BAD - LESS);
        is(x.judged(1, 1, 9, 9), NULL - LESS);
        is(x.judged(0, 2, 9, 9), CAST - LESS);
        is(x.judged(0, 2, 0, 2), CAST - LESS);
        is(x.judged(0, 1, 9, 9), INDEX - LESS);
        is(x.judged(0, 1, 0, 3), INDEX - LESS);
        is(x.judged(0, 1, 0, 2), NOT - LESS);
        is(x.film(days(2), 4, 1, 9), BAD);
        is(x.film(days(2), 1, 3, 9), BAD);
        is(x.film(days(3), 1, 1, 9), BAD);
        is(x.film(days(2), 1, 1, 9), NOT);
        is(x.film(days(2), 0, 2, 9), NOT);
        is(x.film(days(2), 0, 1, 9), NOT);
        is(x.film(days(1), 1, 1, 9), NULL);
        is(x.film(days(1), 0, 2, 9), CAST);
        is(x.film(days(1), 0, 1, 9), INDEX);
        is(x.sheet(4, 0, -1), BAD);
        is(x.sheet(1, 3, -1), BAD);
        is(x.sheet(1, 0, -1), SIZE);
        is(x.item(1, 3, 9, 0), BAD);
        is(x.item(1, 1, 9, 0), NULL);
        is(x.item(0, 2, 9, 0), CAST);
        is(x.item(0, 1, 9, 0), INDEX);
        x.sheet(2, 2, 3);
        is(x.copy(4, 9, 1, 9, -1), BAD);
        is(x.copy(1, 9, 4, 9, -1), BAD);
        is(x.copy(1, 9, 0, 9, -1), NULL);
        is(x.copy(0, 9, 1, 9, -1), NULL);
        is(x.copy(0, 9, 2, 9, -1), CAST);
        is(x.copy(0, 9, 0, 9, -1), INDEX);
    }

    private static void badNotFullNoneCast() {
        about(TERMS, "BAD -1 (a number is not as told, or names nothing),");
        Court x = new Court();
        is(x.day(2, 0, 0), -1);
        is(x.told(0, 0), -1);
        is(x.day(1, 5, 0), 0);
        is(x.told(0, 1), 5);
        is(x.told(1, 1), -1);
        about(TERMS, "NOT -2 (as told), FULL -3, NONE -4 (as told), CAST -12 (of SHEETS another LANE);");
        is(x.trusted(1), -2);
        is(x.trusted(0), 0);
        is(x.wrong(0), -4);
        is(x.wrong(1), 0);
        is(x.strike(), 0);
        is(x.strike(), -4);
        for (int d = 0; d < 28; d++) {
            x.day(0, 0, 0);
        }
        is(x.day(0, 0, 0), -3);
        is(x.strike(), 27);
        is(x.day(0, 0, 0), 27);
        for (int lane = 0; lane < 3; lane++) {
            x.sheet(0, lane, 1);
            for (int as = 0; as < 3; as++) {
                is(x.item(0, as, 0, 1), as == lane ? 1 : -12);
            }
        }
    }

    private static void machine() {
        about(TERMS, "what the machine finds: NULL -11, INDEX -13, SIZE -14 (NULL, CAST, INDEX, SIZE in this order, behind BAD).");
        Court x = new Court();
        is(x.item(0, 0, 5, 1), -11);
        is(x.sheet(0, 0, -1), -14);
        is(x.item(0, 0, 5, 1), -11);
        is(x.sheet(0, 0, 5), 5);
        is(x.item(0, 1, 5, 1), -12);
        is(x.item(0, 0, 5, 1), -13);
        is(x.item(0, 0, 4, 1), 1);
        is(x.item(4, 0, 5, 1), -1);
        is(x.item(0, 3, 5, 1), -1);
    }

    private static void lessByMany() {
        about(TERMS, "Where a told thing may be below 0, refused ones are 100000000 less (-100000001 and so on).");
        Court x = Court.of("-0/1,-0/2,+0,-0/11,-0/12,-0/13,-0/14", 1, 0, 8);
        is(x.gain(days(0)), -1);
        is(x.gain(days(7)), -100000001);
        is(x.gain(days(1)), -2);
        is(x.gain(days(2)), -100000002);
        is(x.gain(days(3)), -11);
        x.row(1, 2, 0, 1, 2, 3, 4, 5);
        is(x.judged(1, 2, 0, 1), -1);
        is(x.judged(4, 2, 0, 1), -100000001);
        is(x.judged(1, 2, 1, 1), -2);
        is(x.judged(1, 2, 2, 1), -100000002);
        is(x.judged(1, 2, 3, 1), -11);
        is(x.judged(0, 2, 0, 1), -100000011);
        is(x.judged(1, 2, 4, 1), -12);
        is(x.judged(1, 1, 4, 1), -100000012);
        is(x.judged(1, 2, 5, 1), -13);
        is(x.judged(1, 2, 5, 2), -100000013);
        is(x.under(0), -14);
        is(x.under(4), -100000001);
        is(x.under(-1), -100000001);
        Court y = Court.of("+0,-0/1,-0/1", 2, 0, 8);
        is(y.price(), -2);
        y.set(0, 9);
        is(y.price(), -100000002);
    }

    private static void changesNothing() {
        about(TERMS, "What is refused changes nothing, but as told.");
        Court x = Court.thatShowsItems();
        x.seed(77);
        x.image();
        x.row(0, 2, 3, 1, 4);
        x.row(1, 1, 2, 7);
        x.type("-5/6,-7");
        String before = x.state();
        is(x.day(0, 0, 0), FULL);
        is(x.day(0, 0, 100), BAD);
        is(x.alter(27, 2, 100), BAD);
        is(x.alter(28, 2, 9), BAD);
        is(x.set(0, 10), BAD);
        is(x.set(1, 4), BAD);
        is(x.set(2, 9), BAD);
        is(x.set(3, 5), BAD);
        is(x.type("8\t"), BAD);
        is(x.seed(-1), BAD);
        is(x.sheet(0, 3, 1), BAD);
        is(x.sheet(0, 1, -1), SIZE);
        is(x.sheet(0, 1, 29), BAD);
        is(x.drop(2), NULL);
        is(x.drop(4), BAD);
        is(x.item(0, 1, 0, 9), CAST);
        is(x.item(0, 2, 3, 9), INDEX);
        is(x.copy(0, 0, 1, 0, 2), CAST);
        is(x.copy(0, 0, 0, 1, 3), INDEX);
        is(x.copy(2, 0, 0, 0, 1), NULL);
        is(x.film(days(1, 2), 0, 2, 0), NOT);
        is(x.film(days(1), 0, 2, 0), INDEX);
        is(x.judged(0, 2, 0, 3), NOT - LESS);
        same("the state", x.state(), before);
        same("SHEET 0", x.itemsOf(0, 2, 3), "3 1 4");
        same("SHEET 1", x.itemsOf(1, 1, 2), "2 7");
        is(x.drop(0), 3);
        is(x.drop(1), 2);
        is(x.drop(2), NULL);
        x.strike();
        is(x.restore(), 1);
        same("the state of the IMAGE", x.state(), before);
        tapeHas(x, 7);
        x.type("?");
        // but as told: THE TAPE is empty behind a FAULT too
        is(x.year(), -28);
        tapeHas(x, 0);
    }

    private static void setsAreBits() {
        about(TERMS, "Sets are bits (bit d is DAY d).");
        Court x = Court.of(times(28, "+1"), 0, 0, 0);
        for (int d = 0; d < 28; d++) {
            x.alter(d, 0, 0);
            is(x.may(0), 1 << d);
            is(x.trusted(0), ALL_DAYS - (1 << d));
            x.alter(d, 0, 1);
            is(x.wrong(1 << d), d);
        }
        for (int d = 28; d < 32; d++) {
            is(x.wrong(1 << d), BAD);
        }
    }

    private static void fractions() {
        about(TERMS, "Fractions are in lowest terms, told above (part 0), below (part 1; above 0).");
        Court x = new Court();
        fraction(x, new int[] {8, 8, 50, 99}, 50, 99);
        fraction(x, new int[] {8, 8, 33, 99}, 1, 3);
        fraction(x, new int[] {8, 8, 98, 99}, 98, 99);
        fraction(x, new int[] {6, 4, 2, 5}, 1, 2);
        fraction(x, new int[] {7, 8, 1, 99}, 1, 113);
        fraction(x, new int[] {8, 7, 97, 99}, 388, 395);
        fraction(x, new int[] {0, 8, 1, 99}, 0, 1);
        fraction(x, new int[] {0, 6, 98, 99}, 0, 1);
        fraction(x, new int[] {6, 0, 1, 99}, 1, 1);
        is(x.sure(8, 8, 1, 2, -1), BAD);
        is(x.sure(8, 8, 1, 2, 2), BAD);
    }

    private static void fraction(Court x, int[] of, int above, int below) {
        is(x.sure(of[0], of[1], of[2], of[3], 0), above);
        is(x.sure(of[0], of[1], of[2], of[3], 1), below);
    }

    private static void yearOfDays() {
        about(TERMS, "A YEAR has DAYS 0 .. 27 at most, as they come;");
        Court x = new Court();
        is(x.count(0), 0);
        is(x.told(0, 1), BAD);
        for (int d = 0; d < 28; d++) {
            is(x.told(d, 1), BAD);
            is(x.day(0, 30 + d, 0), d);
            is(x.told(d, 1), 30 + d);
        }
        is(x.told(28, 1), BAD);
        refused(x, () -> x.day(0, 60, 0), FULL);
        about(TERMS, "each has NEWS or none, a WORTH (0 .. 99), a COST (0 .. 99).");
        Court y = new Court();
        int[][] fit = {{0, 0, 0}, {1, 0, 0}, {0, 99, 0}, {0, 0, 99}, {1, 99, 99}};
        for (int d = 0; d < fit.length; d++) {
            is(y.day(fit[d][0], fit[d][1], fit[d][2]), d);
            for (int what = 0; what < 3; what++) {
                is(y.told(d, what), fit[d][what]);
            }
        }
        refused(y, () -> y.day(0, 100, 0), BAD);
        refused(y, () -> y.day(0, -1, 0), BAD);
        refused(y, () -> y.day(0, 0, 100), BAD);
        refused(y, () -> y.day(0, 0, -1), BAD);
        refused(y, () -> y.day(2, 0, 0), BAD);
        refused(y, () -> y.day(-1, 0, 0), BAD);
    }

    private static void lies() {
        about(TERMS, "LIES (0 .. 9; 9 at first) are what the FOOL may tell in it.");
        Court x = Court.of(times(28, "-1/1"));
        is(x.count(2), 9);
        is(x.lawful(span(19, 27)), 1);
        is(x.lawful(span(18, 27)), 0);
        is(x.wrong(span(18, 27)), 27);
        for (int lies = 0; lies <= 9; lies++) {
            x.set(0, lies);
            is(x.count(2), lies);
            is(x.lawful(span(0, 27) & (1 << lies) - 1), 1);
            is(x.lawful(span(0, lies)), 0);
            is(x.wrong(span(0, lies)), lies);
        }
        refused(x, () -> x.set(0, 10), BAD);
        refused(x, () -> x.set(0, -1), BAD);
    }

    private static void newsAndWords() {
        about(TERMS, "He tells all NEWS as it is; on a DAY that has none he is silent, or LIES.");
        Court x = Court.of("+10/5,-20/6,+30/7,-40/8", 2, 0, 8);
        is(x.gain(0), 40);
        is(x.gain(days(1)), 40 - 6);
        is(x.gain(days(1, 3)), 40 - 6 - 8);
        is(x.gain(days(0)), NOT - LESS);
        is(x.lawful(days(2)), 0);
        is(x.lawful(days(3)), 1);
        about(TERMS, "A WORD is on each DAY on which he tells something.");
        is(x.trusted(0), days(0, 2));
        is(x.trusted(days(1)), days(0, 1, 2));
        is(x.trusted(days(1, 3)), days(0, 1, 2, 3));
        is(x.trusted(days(3)), days(0, 2));
        Court y = Court.of("-1/1,-1/1", 0, 0, 8);
        is(y.trusted(0), 0);
        y.alter(1, 0, 1);
        is(y.trusted(0), days(1));
    }

    private static void lawFree() {
        about(TERMS, "LAWS, on which DAYS he may LIE: 0 FREE: on any that has no NEWS;");
        Court x = Court.of(times(28, "-1/1"), 9, 0, 4);
        is(x.may(0), ALL_DAYS);
        is(x.lawful(days(5, 6, 7, 12, 13, 14, 20, 26, 27)), 1);
        is(x.wrong(days(6)), NONE);
        is(x.may(days(0)), span(1, 27));
        for (int d = 0; d < 28; d += 9) {
            x.alter(d, 0, 1);
            is(x.may(0), ALL_DAYS - (1 << d));
            is(x.wrong(1 << d), d);
            is(x.lawful(1 << d), 0);
            x.alter(d, 0, 0);
            is(x.lawful(1 << d), 1);
        }
    }

    private static void lawSundays() {
        about(TERMS, "below it 1 SUNDAYS: not on DAYS 6, 13, 20, 27;");
        Court x = Court.of(times(28, "-1/1"), 9, 1, 4);
        is(x.may(0), ALL_DAYS - days(6, 13, 20, 27));
        for (int d = 0; d < 28; d++) {
            boolean sunday = d == 6 || d == 13 || d == 20 || d == 27;
            is(x.lawful(1 << d), sunday ? 0 : 1);
            is(x.wrong(1 << d), sunday ? d : NONE);
        }
        is(x.lawful(days(4, 5, 7, 8)), 1);
        is(x.wrong(days(5, 6, 7, 13)), 6);
        // below FREE: NEWS close a DAY too
        x.alter(5, 0, 1);
        is(x.wrong(days(5)), 5);
        is(x.may(days(4)), span(7, 26) - days(13, 20));
        x.set(1, 0);
        is(x.lawful(days(6, 13, 20, 27)), 1);
    }

    private static void lawApart() {
        about(TERMS, "2 APART: not on a DAY just behind one on which he LIED;");
        Court x = Court.of(times(28, "-1/1"), 9, 2, 4);
        for (int d = 0; d < 26; d++) {
            is(x.wrong(days(d, d + 1)), d + 1);
            is(x.wrong(days(d, d + 2)), NONE);
            is(x.may(days(d)), span(d + 2, 27));
        }
        is(x.wrong(days(26, 27)), 27);
        is(x.may(days(26)), 0);
        is(x.lawful(days(6, 13, 20, 27)), 1);
        is(x.wrong(days(0, 2, 4, 5, 6)), 5);
        // below FREE: NEWS close a DAY too
        x.alter(2, 0, 1);
        is(x.wrong(days(0, 2)), 2);
        is(x.may(days(0)), span(3, 27));
        is(x.lawful(days(1, 3)), 1);
        x.set(1, 0);
        is(x.lawful(days(0, 1)), 1);
    }

    private static void lawWeeks() {
        about(TERMS, "3 WEEKS (below APART): that, and not on two DAYS of one week (7 DAYS each, from DAY 0 on).");
        Court x = Court.of(times(28, "-1/1"), 9, 3, 4);
        for (int week = 0; week < 28; week += 7) {
            is(x.wrong(days(week, week + 6)), week + 6);
            is(x.wrong(days(week, week + 2)), week + 2);
            is(x.wrong(days(week + 4, week + 6)), week + 6);
            is(x.may(days(week)), span(week + 7, 27));
            is(x.may(days(week + 5)), span(week + 7, 27));
            is(x.may(days(week + 6)), span(week + 8, 27));
        }
        for (int sunday = 6; sunday < 27; sunday += 7) {
            is(x.wrong(days(sunday, sunday + 1)), sunday + 1);
            is(x.wrong(days(sunday, sunday + 2)), NONE);
            is(x.wrong(days(sunday - 1, sunday + 1)), NONE);
            is(x.wrong(days(sunday - 6, sunday + 7)), NONE);
        }
        is(x.lawful(days(6, 13, 20, 27)), 1);
        is(x.lawful(days(0, 7, 14, 21)), 1);
        is(x.wrong(days(0, 7, 14, 21, 27)), 27);
        is(x.may(0), ALL_DAYS);
        // below APART, FREE: NEWS close a DAY too
        x.alter(7, 0, 1);
        is(x.wrong(days(0, 7)), 7);
        is(x.may(days(0)), span(8, 27));
        x.set(1, 2);
        is(x.lawful(days(0, 6)), 1);
    }

    private static void freeAtFirst() {
        about(TERMS, "FREE at first.");
        Court x = new Court();
        is(x.count(3), 0);
        x.typeAll(times(8, "-1/1"));
        x.year();
        is(x.count(3), 0);
        is(x.lawful(days(5, 6, 7)), 1);
        is(x.set(1, 3), 0);
        is(x.lawful(days(5, 6, 7)), 0);
    }

    private static void courtKnows() {
        about(TERMS, "THE COURT knows on each morning how many LIES he has left (L), how many DAYS are left, this one too (D).");
        // TRUST 8: a WORD is TRUSTED while L is no more than D
        Court x = Court.of("+1,+2,-0/50,+4,+8", 3, 0, 8);
        is(x.trusted(0), days(0, 1));
        is(x.gain(0), 1 + 2);
        // a LIE counts on its own morning as left, on the next one no more
        is(x.trusted(days(2)), days(0, 1, 2, 3));
        is(x.gain(days(2)), 1 + 2 - 50 + 4);
        x.set(0, 4);
        is(x.trusted(0), days(0, 1));
        is(x.trusted(days(2)), days(0, 1));
        is(x.gain(days(2)), 1 + 2);
        x.set(0, 5);
        is(x.trusted(0), days(0));
        x.set(0, 6);
        is(x.trusted(0), 0);
        x.set(0, 1);
        is(x.trusted(0), days(0, 1, 3, 4));
        // the last DAY is left on its own morning: D is 1
        is(x.gain(0), 15);
        x.day(1, 16, 0);
        x.set(0, 2);
        is(x.trusted(0), days(0, 1, 3, 4));
    }

    private static void courtTrusts() {
        about(TERMS, "It TRUSTS a WORD, if 8 times L is no more than TRUST (0 .. 8; 4 at first) times D.");
        Court x = new Court();
        is(x.count(4), 4);
        x.typeAll(times(28, "+1"));
        x.year();
        for (int lies = 0; lies <= 9; lies++) {
            x.set(0, lies);
            for (int trust = 0; trust <= 8; trust++) {
                x.set(2, trust);
                int due = 0;
                for (int d = 0; d < 28; d++) {
                    due |= 8 * lies <= trust * (28 - d) ? 1 << d : 0;
                }
                is(x.trusted(0), due);
                is(x.gain(0), Integer.bitCount(due));
            }
        }
        refused(x, () -> x.set(2, 9), BAD);
        Court y = Court.of("+1,+1", 1, 0, 4);
        refused(y, () -> y.set(2, -1), BAD);
        // 8 and 8 on the first DAY, 8 and 4 on the second
        is(y.trusted(0), days(0));
        y.set(2, 3);
        is(y.trusted(0), 0);
        y.set(0, 0);
        y.set(2, 0);
        is(y.trusted(0), days(0, 1));
    }

    private static void courtHas() {
        about(TERMS, "If it TRUSTS, it has WORTH more of NEWS, COST less by a LIE; else nothing.");
        Court x = Court.of("+10/3", 1, 0, 8);
        is(x.gain(0), 10);
        x.set(2, 7);
        is(x.gain(0), 0);
        Court y = Court.of("-10/3", 1, 0, 8);
        is(y.gain(1), -3);
        is(y.gain(0), 0);
        y.set(2, 7);
        is(y.gain(1), 0);
        is(y.trusted(1), 0);
        Court z = Court.of("+99/1,-1/99", 1, 0, 8);
        is(z.gain(days(1)), 0);
        is(z.gain(0), 99);
        is(z.trusted(days(1)), days(0, 1));
    }

    private static void lawfulRow() {
        about(TERMS, "A row of LIES is a set of DAYS: LAWFUL, if he may LIE on each, and they are no more than LIES.");
        Court x = Court.of("-1,-1,+1,-1,-1", 2, 2, 4);
        is(x.lawful(0), 1);
        is(x.lawful(days(0, 3)), 1);
        is(x.lawful(days(0, 1)), 0);
        is(x.lawful(days(2)), 0);
        x.set(0, 1);
        is(x.lawful(days(0, 3)), 0);
        is(x.lawful(days(3)), 1);
        x.set(0, 0);
        is(x.lawful(days(3)), 0);
        is(x.lawful(0), 1);
        Court y = new Court();
        is(y.lawful(0), 1);
        is(y.lawful(1), BAD);
    }

    private static void gainOfRow() {
        about(TERMS, "GAIN of it: what THE COURT has so in all DAYS together (LIES left go down from DAY to DAY).");
        Court x = Court.of("-0/1,-0/2,-0/4,-0/8,+16,+32", 4, 0, 8);
        // D is 6 .. 1: TRUSTED while LIES left are no more than D
        is(x.gain(0), 0);
        is(x.gain(days(0)), -1);
        is(x.gain(days(0, 1)), -1 - 2 + 16);
        is(x.gain(days(0, 1, 2)), -1 - 2 - 4 + 16 + 32);
        is(x.gain(days(0, 1, 2, 3)), -1 - 2 - 4 - 8 + 16 + 32);
        is(x.gain(days(3)), 0);
        is(x.gain(days(2, 3)), -4 - 8 + 16);
        Court most = Court.of(times(28, "+99/99"), 0, 0, 0);
        is(most.gain(0), 28 * 99);
        most.set(0, 9);
        is(most.gain(0), 0);
        most.set(2, 8);
        is(most.gain(0), 20 * 99);
        Court least = Court.of(times(28, "-99/99"), 9, 0, 8);
        is(least.gain(span(19, 27)), -9 * 99);
        is(least.gain(span(18, 26)), -9 * 99);
        is(new Court().gain(0), 0);
    }

    private static void sheetsAtFirst() {
        about(TERMS, "Ahead of the calls `judged`, `film`, `sheet`, `drop`, `item`, `copy` the interface says: "
            + "---- 4 sheets 0 .. 3: nothing (at first), or a row of a LANE: 0 bytes, 1 shorts, 2 ints, of 0 to 28 items.");
        Court x = Court.thatShowsItems();
        for (int s = 0; s < 4; s++) {
            is(x.drop(s), NULL);
            is(x.item(s, 0, 0, 0), NULL);
        }
        is(x.drop(4), BAD);
        is(x.drop(-1), BAD);
        int[] shift = {8, 16, 31};
        for (int lane = 0; lane < 3; lane++) {
            is(x.sheet(3, lane, 28), 28);
            is(x.item(3, lane, 27, (1 << shift[lane]) + 9), 1);
            is(x.itemOf(3, lane, 27), lane == 2 ? -1 : 9);
            is(x.item(3, lane, 27, (1 << shift[lane] - 1) + 9), 1);
            is(x.itemOf(3, lane, 27), -1);
            is(x.item(3, lane, 28, 9), INDEX);
            is(x.sheet(3, lane, 29), BAD);
            is(x.drop(3), 28);
            is(x.sheet(3, lane, 0), 0);
            is(x.item(3, lane, 0, 9), INDEX);
            is(x.drop(3), 0);
        }
        is(x.sheet(3, 3, 1), BAD);
        is(x.sheet(3, -1, 1), BAD);
        is(x.drop(3), NULL);
    }
}
