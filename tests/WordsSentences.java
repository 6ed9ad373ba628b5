/** Promises 22 to 27 and the terms of WORDS and LOTS, sentence by sentence. */
final class WordsSentences extends Sentences {
    private static final String TERMS = "Terms";

    static void all() {
        words();
        setsThatFit();
        setsThatFitByLaw();
        draw();
        turns();
        liesByLots();
        sets();
        setsRefused();
        surely();
        lots();
        seed();
        image();
        restore();
    }

    /** How many SETS fit, SURELY LIES, SURELY TRUE. */
    private static void fits(Court x, int[] known, int many, int lies, int truths) {
        is(x.sets(known[0], known[1], known[2], known[3]), many);
        is(x.surely(known[0], known[1], known[2], known[3], 0), lies);
        is(x.surely(known[0], known[1], known[2], known[3], 1), truths);
    }

    private static int[] known(int words, int truths, int lies, int k) {
        return new int[] {words, truths, lies, k};
    }

    private static void words() {
        about(TERMS, "WORDS: told is a set of DAYS on which there was a WORD, of these a set that is known as true, "
            + "a set that is known as LIES.");
        Court x = new Court();
        fits(x, known(0, 0, 0, 0), 1, 0, 0);
        fits(x, known(0, 0, 0, 1), 0, NONE, NONE);
        fits(x, known(7, 0, 0, 1), 3, 0, 0);
        fits(x, known(7, 1, 0, 1), 2, 0, 1);
        fits(x, known(7, 0, 1, 1), 1, 1, 6);
        fits(x, known(7, 7, 0, 0), 1, 0, 7);
        fits(x, known(7, 0, 7, 3), 1, 7, 0);
        fits(x, known(7, 8, 0, 1), BAD, BAD, BAD);
        fits(x, known(7, 0, 8, 1), BAD, BAD, BAD);
        fits(x, known(7, 1, 3, 1), BAD, BAD, BAD);
        fits(x, known(7, 1, 2, 1), 1, 2, 5);
    }

    private static void setsThatFit() {
        about(TERMS, "SETS of just k LIES among them that fit: all known LIES, no known true ones, LAWFUL, "
            + "but that NEWS, LIES as told count for nothing here: how many; which DAYS are in all of these (SURELY LIES), "
            + "in none, though there was a WORD (SURELY TRUE).");
        Court x = new Court();
        fits(x, known(31, 0, 0, 0), 1, 0, 31);
        fits(x, known(31, 0, 0, 2), 10, 0, 0);
        fits(x, known(31, 0, 0, 5), 1, 31, 0);
        fits(x, known(31, 0, 0, 6), 0, NONE, NONE);
        fits(x, known(31, 0, 3, 1), 0, NONE, NONE);
        fits(x, known(31, 0, 3, 2), 1, 3, 28);
        fits(x, known(31, 0, 3, 3), 3, 3, 0);
        fits(x, known(31, 12, 3, 3), 1, 19, 12);
        fits(x, known(31, 12, 3, 4), 0, NONE, NONE);
        fits(x, known(31, 15, 0, 1), 1, 16, 15);
        fits(x, known(31, 31, 0, 1), 0, NONE, NONE);
        // a DAY without a WORD is neither
        fits(x, known(days(0, 27), 0, days(27), 1), 1, days(27), days(0));
        fits(x, known(days(0, 2, 27), 0, 0, 3), 1, days(0, 2, 27), 0);
        // NEWS, LIES as told count for nothing
        Court y = Court.of("+1,+1,+1", 0, 0, 0);
        fits(y, known(31, 0, 0, 2), 10, 0, 0);
        fits(y, known(7, 0, 0, 3), 1, 7, 0);
        y.set(0, 1);
        fits(y, known(31, 0, 0, 2), 10, 0, 0);
        fits(x, known(ALL_DAYS, 0, 0, 9), 6906900, 0, 0);
        fits(x, known(ALL_DAYS, span(9, 27), 0, 9), 1, span(0, 8), span(9, 27));
        fits(x, known(ALL_DAYS, span(8, 27), 0, 9), 0, NONE, NONE);
        fits(x, known(ALL_DAYS, 0, span(19, 27), 9), 1, span(19, 27), span(0, 18));
        fits(x, known(ALL_DAYS, 0, span(18, 27), 9), 0, NONE, NONE);
    }

    private static void setsThatFitByLaw() {
        about(TERMS, "LAWFUL, but that NEWS, LIES as told count for nothing here:");
        Court x = new Court();
        x.set(1, 1);
        for (int sunday = 6; sunday < 28; sunday += 7) {
            fits(x, known(days(sunday), 0, 0, 1), 0, NONE, NONE);
            fits(x, known(days(sunday), 0, days(sunday), 1), 0, NONE, NONE);
            fits(x, known(days(sunday - 1, sunday), 0, 0, 1), 1, days(sunday - 1), days(sunday));
        }
        fits(x, known(days(6, 7), 0, 0, 1), 1, days(7), days(6));
        fits(x, known(ALL_DAYS, 0, 0, 1), 24, 0, days(6, 13, 20, 27));
        x.set(1, 2);
        fits(x, known(days(0, 1), 0, 0, 2), 0, NONE, NONE);
        fits(x, known(days(0, 1), 0, 0, 1), 2, 0, 0);
        fits(x, known(days(0, 2), 0, 0, 2), 1, days(0, 2), 0);
        fits(x, known(days(0, 1, 2), 0, 0, 2), 1, days(0, 2), days(1));
        fits(x, known(days(0, 1, 2), 0, days(1), 1), 1, days(1), days(0, 2));
        fits(x, known(days(0, 1, 2), 0, days(1), 2), 0, NONE, NONE);
        fits(x, known(days(6, 7), 0, 0, 2), 0, NONE, NONE);
        fits(x, known(days(26, 27), 0, 0, 2), 0, NONE, NONE);
        fits(x, known(days(25, 26, 27), 0, 0, 2), 1, days(25, 27), days(26));
        fits(x, known(ALL_DAYS, 0, 0, 9), 167960, 0, 0);
        x.set(1, 3);
        fits(x, known(days(0, 6), 0, 0, 2), 0, NONE, NONE);
        fits(x, known(days(6, 7), 0, 0, 2), 0, NONE, NONE);
        fits(x, known(days(6, 8), 0, 0, 2), 1, days(6, 8), 0);
        fits(x, known(days(5, 7), 0, 0, 2), 1, days(5, 7), 0);
        fits(x, known(days(0, 6, 7, 13), 0, 0, 2), 3, 0, 0);
        fits(x, known(days(0, 6, 7, 13), 0, days(6), 2), 1, days(6, 13), days(0, 7));
        fits(x, known(days(21, 27), 0, 0, 2), 0, NONE, NONE);
        fits(x, known(ALL_DAYS, 0, 0, 4), 2255, 0, 0);
        fits(x, known(ALL_DAYS, 0, 0, 5), 0, NONE, NONE);
        fits(x, known(ALL_DAYS, 0, 0, 0), 1, 0, ALL_DAYS);
    }

    private static void draw() {
        about(TERMS, "LOTS: THE DRAW is a number of 31 bits (1 at first):");
        Court x = new Court();
        is(x.seed(MOST), 1);
        is(x.seed(0), MOST);
        is(x.seed(-1), BAD);
        is(x.seed(LEAST), BAD);
        is(x.seed(1), 0);
        Court y = Court.of("-1");
        // 2147483647 times 1103515245 and 12345 more: 1043980748 in the lowest 31 bits
        long[] seeds = {0, 1, 12345, 1 << 30, MOST, MOST - 1, 1103515245, 715827882};
        for (long seed : seeds) {
            y.seed((int) seed);
            y.lots();
            long drawn = (seed * 1103515245L + 12345L) % 2147483648L;
            is(y.seed(0), (int) drawn);
        }
        y.seed(MOST);
        y.lots();
        is(y.seed(0), 1043980748);
        y.lots();
        is(y.seed(0), 12345);
    }

    private static void turns() {
        about(TERMS, "for DAYS 0 .. in turn (each, whatever it has) it becomes the lowest 31 bits of itself "
            + "times 1103515245 and 12345 more;");
        int[] drawn = {1, 1103527590, 377401575, 662824084, 1147902781, 2035015474};
        for (int many = 0; many <= 5; many++) {
            String[] years = {times(many, "-1/1"), times(many, "+1/1")};
            for (String year : years) {
                is(drawnBy(Court.of(year, 9, 0, 4)), drawn[many]);
                is(drawnBy(Court.of(year, 0, 0, 4)), drawn[many]);
                is(drawnBy(Court.of(year, 9, 2, 0)), drawn[many]);
                is(drawnBy(Court.of(year, 9, 3, 0)), drawn[many]);
            }
        }
        long draw = 1;
        for (int d = 0; d < 28; d++) {
            draw = (draw * 1103515245L + 12345L) % 2147483648L;
        }
        is(drawnBy(Court.of(times(28, "-1"), 3, 1, 4)), (int) draw);
        is(drawnBy(Court.of(times(28, "+1"), 3, 1, 4)), (int) draw);
    }

    private static int drawnBy(Court x) {
        x.lots();
        return x.seed(0);
    }

    private static void liesByLots() {
        about(TERMS, "he LIES on that DAY, if he may by THE LAW and has LIES left, and it by 65536 (cut), "
            + "as a remainder by D (as above), is below his LIES left.");
        // from 1 on, by 65536: 16838, 5758, 10113, 17515, 31051
        Court five = Court.of("-1,-1,-1,-1,-1");
        // by D: 3 of 5, 2 of 4, 0 of 3, 1 of 2, 0 of 1
        int[] due = {0, days(2), days(2, 4), days(1, 2, 4), days(0, 1, 2, 4), days(0, 1, 2, 3, 4), days(0, 1, 2, 3, 4)};
        for (int lies = 0; lies < due.length; lies++) {
            five.seed(1);
            five.set(0, lies);
            is(five.lots(), due[lies]);
        }
        five.set(1, 2);
        five.set(0, 4);
        five.seed(1);
        // 3 is below 4, DAY 1 is just behind, 0 is below 3, DAY 3 is just behind, 0 is below 2
        is(five.lots(), days(0, 2, 4));
        five.set(0, 3);
        five.seed(1);
        // 3 is not below 3, 2 is, DAY 2 is just behind, 1 is below 2, DAY 4 is just behind
        is(five.lots(), days(1, 3));
        five.set(1, 3);
        five.seed(1);
        is(five.lots(), days(1));
        five.set(1, 0);
        five.alter(2, 0, 1);
        five.set(0, 1);
        five.seed(1);
        is(five.lots(), days(4));
        five.set(0, 9);
        five.seed(1);
        is(five.lots(), days(0, 1, 3, 4));
        lotsByEachSeed();
    }

    private static void lotsByEachSeed() {
        for (int law = 0; law < 4; law++) {
            Court x = Court.of(times(28, "-1/1").replace("-1/1,-1/1,-1/1,", "-1/1,-1/1,+1/1,"), 9, law, 4);
            for (int i = 0; i < 100; i++) {
                int seed = (int) (i * 98765431L % 2147483648L);
                int lies = i % 10;
                x.set(0, lies);
                x.seed(seed);
                is(x.lots(), lotsOf(x, law, lies, seed));
            }
        }
    }

    /** LOTS of 28 DAYS of which each third one, as far as there are three, has NEWS. */
    private static int lotsOf(Court x, int law, int lies, long draw) {
        int set = 0;
        for (int d = 0; d < 28; d++) {
            draw = (draw * 1103515245L + 12345L) % 2147483648L;
            int left = lies - Integer.bitCount(set);
            boolean may = d == 27 || d % 3 != 2;
            may &= law != 1 || d % 7 != 6;
            may &= law < 2 || d == 0 || (set >> d - 1 & 1) == 0;
            may &= law < 3 || set >> d / 7 * 7 == 0;
            if (may && left > 0 && draw / 65536 % (28 - d) < left) {
                set |= 1 << d;
            }
        }
        return set;
    }

    private static void sets() {
        about("Promise 22: sets", "WORDS, a set of DAYS (bits 0 .. 27, whatever DAYS there are), of them true, LIES: "
            + "how many SETS of k (0 .. 9) fit.");
        Court none = new Court();
        Court x = Court.of("-1,-1");
        Court all = Court.of(times(28, "+1"));
        for (Court c : new Court[] {none, x, all}) {
            is(c.sets(days(27), 0, 0, 1), 1);
            is(c.sets(days(0), 0, days(0), 1), 1);
            is(c.sets(days(0, 27), days(27), 0, 1), 1);
            is(c.sets(ALL_DAYS, 0, 0, 0), 1);
            is(c.sets(ALL_DAYS, 0, 0, 1), 28);
            is(c.sets(ALL_DAYS, 0, 0, 8), 3108105);
            is(c.sets(ALL_DAYS, 0, 0, 9), 6906900);
            is(c.sets(ALL_DAYS, 0, 0, 10), BAD);
            is(c.sets(ALL_DAYS, 0, 0, -1), BAD);
            is(c.sets(1 << 28, 0, 0, 1), BAD);
            is(c.sets(ALL_DAYS, ALL_DAYS, 0, 0), 1);
            is(c.sets(ALL_DAYS, ALL_DAYS, 0, 1), 0);
            is(c.sets(0, 0, 0, 9), 0);
        }
    }

    private static void setsRefused() {
        about("Promise 22: sets", "BAD: also a set that is no part of WORDS, a DAY in both.");
        Court x = Court.of("+1,-2");
        is(x.sets(6, 2, 4, 1), 1);
        refused(x, () -> x.sets(6, 3, 4, 1), BAD);
        refused(x, () -> x.sets(6, 2, 5, 1), BAD);
        refused(x, () -> x.sets(6, 2, 6, 1), BAD);
        refused(x, () -> x.sets(6, 6, 4, 1), BAD);
        refused(x, () -> x.sets(6, 1 << 28, 4, 1), BAD);
        refused(x, () -> x.sets(6, 2, 1 << 31, 1), BAD);
        refused(x, () -> x.sets(1 << 28 | 6, 2, 4, 1), BAD);
        refused(x, () -> x.sets(1 << 31, 0, 0, 1), BAD);
        refused(x, () -> x.sets(-1, 0, 0, 1), BAD);
        refused(x, () -> x.sets(-1, -1, 0, 0), BAD);
        for (int wild : WILD) {
            is(x.sets(6, 2, 4, wild), BAD);
            is(x.sets(6, wild, 4, 1), BAD);
            is(x.sets(6, 2, wild, 1), BAD);
        }
        is(x.sets(6, 6, 0, 0), 1);
        is(x.sets(6, 0, 6, 2), 1);
    }

    private static void surely() {
        String part = "Promise 23: surely";
        about(part, "SURELY LIES (0), SURELY TRUE (1), likewise.");
        Court x = new Court();
        is(x.surely(days(0, 27), 0, 0, 1, 0), 0);
        is(x.surely(days(0, 27), 0, 0, 1, 1), 0);
        is(x.surely(days(0, 27), 0, 0, 2, 0), days(0, 27));
        is(x.surely(days(0, 27), 0, 0, 2, 1), 0);
        is(x.surely(days(0, 27), 0, 0, 0, 0), 0);
        is(x.surely(days(0, 27), 0, 0, 0, 1), days(0, 27));
        is(x.surely(days(0, 27), days(27), 0, 1, 0), days(0));
        is(x.surely(days(0, 27), days(27), 0, 1, 1), days(27));
        is(x.surely(0, 0, 0, 0, 0), 0);
        is(x.surely(0, 0, 0, 0, 1), 0);
        Court y = Court.of("+1,+1", 0, 2, 4);
        is(y.surely(7, 0, 0, 2, 0), 5);
        is(y.surely(7, 0, 0, 2, 1), 2);
        is(y.surely(15, 0, 0, 2, 0), 0);
        is(y.surely(15, 0, 0, 2, 1), 0);
        is(y.surely(15, 8, 0, 2, 1), 10);
        about(part, "BAD; NONE: no SET fits.");
        is(x.surely(7, 0, 0, 3, 0), 7);
        refused(x, () -> x.surely(7, 0, 0, 4, 0), NONE);
        refused(x, () -> x.surely(7, 0, 0, 4, 1), NONE);
        refused(x, () -> x.surely(7, 0, 0, 4, 2), BAD);
        refused(x, () -> x.surely(7, 0, 0, 3, 2), BAD);
        refused(x, () -> x.surely(7, 0, 0, 3, -1), BAD);
        is(x.surely(7, 0, 0, 10, 0), BAD);
        is(x.surely(7, 0, 0, -1, 0), BAD);
        is(x.surely(7, 0, 0, 9, 0), NONE);
        is(x.surely(1 << 28, 0, 0, 1, 0), BAD);
        is(x.surely(7, 8, 0, 1, 0), BAD);
        is(x.surely(7, 0, 8, 1, 0), BAD);
        is(x.surely(7, 1, 1, 1, 0), BAD);
        is(x.surely(7, 1, 2, 1, 0), 2);
        is(x.surely(7, 0, 3, 1, 1), NONE);
        is(x.surely(7, 0, 3, 2, 1), 4);
        for (int wild : WILD) {
            is(x.surely(wild, 0, 0, 0, 0), wild == 1 << 16 || wild == 1 << 24 ? 0 : BAD);
            is(x.surely(7, wild, 0, 1, 0), BAD);
            is(x.surely(7, 0, wild, 1, 0), BAD);
            is(x.surely(7, 0, 0, wild, 0), BAD);
            is(x.surely(7, 0, 0, 1, wild), BAD);
        }
    }

    private static void lots() {
        about("Promise 24: lots", "LOTS: the set.");
        Court none = new Court();
        is(none.lots(), 0);
        is(none.seed(1), 1);
        none.day(0, 0, 0);
        is(none.lots(), days(0));
        is(none.lots(), days(0));
        none.set(0, 0);
        is(none.lots(), 0);
        none.setAll(1, 1, 4);
        is(none.lots(), days(0));
        none.alter(0, 0, 1);
        is(none.lots(), 0);
        Court x = Court.of(times(28, "-1/2"), 9, 0, 4);
        String before = x.state();
        int set = x.lots();
        is(x.lawful(set), 1);
        // he may LIE on each DAY: just as many as he has come
        is(Integer.bitCount(set), 9);
        x.seed(1);
        same("the state behind LOTS and THE DRAW of before", x.state(), before);
        is(x.lots(), set);
        int next = x.lots();
        is(next == set ? 1 : 0, 0);
        is(Integer.bitCount(next), 9);
    }

    private static void seed() {
        String part = "Promise 25: seed";
        about(part, "THE DRAW becomes v: what it was.");
        Court x = new Court();
        is(x.seed(0), 1);
        is(x.seed(5), 0);
        is(x.seed(MOST), 5);
        is(x.seed(1), MOST);
        x.typeAll("-1");
        x.year();
        x.lots();
        is(x.seed(0), 1103527590);
        x.lots();
        is(x.seed(0), 12345);
        about(part, "BAD: below 0.");
        is(x.seed(7), 0);
        refused(x, () -> x.seed(-1), BAD);
        refused(x, () -> x.seed(LEAST), BAD);
        refused(x, () -> x.seed(-MOST), BAD);
        is(x.seed(0), 7);
        is(x.seed(0), 0);
    }

    private static void image() {
        about("Promise 26: image", "All but SHEETS, THE TAPE is kept as an IMAGE: 1.");
        Court x = Court.thatShowsItems();
        x.seed(77);
        x.type("+5");
        x.row(0, 1, 3, 4);
        String before = x.state();
        is(x.image(), 1);
        same("the state behind image", x.state(), before);
        x.type("/6");
        x.item(0, 1, 1, 9);
        x.row(2, 0, 7);
        x.seed(3);
        x.strike();
        x.alter(0, 0, 1);
        x.alter(1, 1, 50);
        x.alter(2, 2, 60);
        x.setAll(9, 3, 0);
        is(x.restore(), 1);
        same("the state of then", x.state(), before);
        same("SHEET 0", x.itemsOf(0, 1, 2), "3 9");
        same("SHEET 2", x.itemsOf(2, 0, 1), "7");
        tapeHas(x, 4);
        is(x.year(), 1);
        is(x.told(0, 2), 6);
        // a YEAR with no DAYS is kept as well
        Court none = new Court();
        String empty = none.state();
        is(none.image(), 1);
        none.day(1, 2, 3);
        none.seed(9);
        is(none.restore(), 1);
        same("the state of then", none.state(), empty);
    }

    private static void restore() {
        String part = "Promise 27: restore";
        about(part, "All is as it was then: 1.");
        Court x = Court.of("+1/2,-3/4", 1, 2, 3);
        x.seed(5);
        String first = x.state();
        x.image();
        for (int i = 0; i < 3; i++) {
            x.day(0, i, i);
            x.alter(0, 1, 90 + i);
            x.setAll(i, i, i);
            x.seed(i);
            is(x.restore(), 1);
            same("the state of then", x.state(), first);
        }
        // the last IMAGE is the one
        x.strike();
        x.set(2, 8);
        String second = x.state();
        is(x.image(), 1);
        x.typeAll("-9/9,-9/9,-9/9");
        x.year();
        x.lots();
        is(x.restore(), 1);
        same("the state of then", x.state(), second);
        is(x.count(0), 1);
        x.typeAll("x");
        is(x.year(), -20);
        is(x.restore(), 1);
        same("the state of then", x.state(), second);
        about(part, "NONE: there is none.");
        Court y = Court.of("+1/2,-3/4", 1, 2, 3);
        refused(y, () -> y.restore(), NONE);
        refused(y, () -> y.restore(), NONE);
        is(y.image(), 1);
        is(y.restore(), 1);
        is(y.restore(), 1);
        Court z = new Court();
        is(z.restore(), NONE);
    }
}
