/** Promises 11 to 21 and the terms of HARM, TRUST, the FOOT and BETS, sentence by sentence. */
final class HarmSentences extends Sentences {
    private static final String TERMS = "Terms";
    private static final String ONE_LIE = "-0/20,-0/30,+9";

    static void all() {
        lawful();
        wrong();
        gain();
        trusted();
        harmIsLeast();
        worstIsSilentFirst();
        harm();
        worst();
        best();
        price();
        under();
        foot();
        sure();
        sureRefused();
        betSentence();
        stakes();
        bet();
    }

    private static void lawful() {
        String part = "Promise 11: lawful";
        about(part, "Whether a set is LAWFUL (1, 0).");
        Court x = Court.of("-1,-1,+1,-1,-1,-1,-1,-1", 3, 0, 4);
        is(x.lawful(0), 1);
        is(x.lawful(days(0, 1, 7)), 1);
        is(x.lawful(days(0, 1, 6, 7)), 0);
        is(x.lawful(days(2)), 0);
        is(x.lawful(days(6, 7)), 1);
        x.set(1, 1);
        is(x.lawful(days(6)), 0);
        is(x.lawful(days(5, 7)), 1);
        x.set(1, 2);
        is(x.lawful(days(6, 7)), 0);
        is(x.lawful(days(4, 6)), 1);
        x.set(1, 3);
        is(x.lawful(days(4, 6)), 0);
        is(x.lawful(days(5, 7)), 1);
        x.set(0, 0);
        is(x.lawful(days(0)), 0);
        is(x.lawful(0), 1);
        about(part, "BAD.");
        is(x.lawful(days(7)), 0);
        refused(x, () -> x.lawful(days(8)), BAD);
        refused(x, () -> x.lawful(days(0, 8)), BAD);
        is(x.lawful(1 << 28), BAD);
        is(x.lawful(1 << 31), BAD);
        is(x.lawful(-1), BAD);
        Court none = new Court();
        is(none.lawful(0), 1);
        is(none.lawful(1), BAD);
        Court all = Court.of(times(28, "-1"));
        is(all.lawful(1 << 27), 1);
        is(all.lawful(1 << 28), BAD);
        is(all.lawful(ALL_DAYS), 0);
        is(all.lawful(MOST), BAD);
    }

    private static void wrong() {
        String part = "Promise 12: wrong";
        about(part, "The first DAY on which he may not LIE, by a set (by THE LAW, for NEWS, or as none is left).");
        Court x = Court.of("-1,-1,+1,-1,-1,-1,-1,-1,-1,+1", 3, 2, 4);
        is(x.wrong(days(0, 1)), 1);
        is(x.wrong(days(0, 2)), 2);
        is(x.wrong(days(0, 3, 5)), NONE);
        is(x.wrong(days(0, 3, 5, 7)), 7);
        is(x.wrong(days(0, 3, 5, 7, 9)), 7);
        is(x.wrong(days(0, 1, 2, 3, 4, 5)), 1);
        is(x.wrong(days(1, 2, 3)), 2);
        is(x.wrong(days(9)), 9);
        x.set(0, 1);
        is(x.wrong(days(0, 1)), 1);
        is(x.wrong(days(0, 3)), 3);
        is(x.wrong(days(3)), NONE);
        x.set(0, 0);
        is(x.wrong(days(3)), 3);
        x.setAll(9, 1, 4);
        is(x.wrong(days(4, 5, 6, 7, 9)), 6);
        is(x.wrong(days(4, 5, 7, 9)), 9);
        x.set(1, 3);
        is(x.wrong(days(0, 6, 7)), 6);
        is(x.wrong(days(6, 7)), 7);
        is(x.wrong(days(6, 8)), NONE);
        Court all = Court.of(times(28, "-1"), 9, 0, 4);
        is(all.wrong(ALL_DAYS), 9);
        is(all.wrong(span(19, 27)), NONE);
        is(all.wrong(span(18, 27)), 27);
        about(part, "BAD; NONE: it is LAWFUL.");
        is(all.wrong(0), NONE);
        is(all.wrong(1 << 27), NONE);
        is(all.wrong(1 << 28), BAD);
        is(all.wrong(1 << 31), BAD);
        is(all.wrong(-1), BAD);
        refused(x, () -> x.wrong(0), NONE);
        refused(x, () -> x.wrong(days(2, 10)), BAD);
        is(x.wrong(days(2, 9)), 2);
        Court none = new Court();
        is(none.wrong(0), NONE);
        is(none.wrong(1), BAD);
    }

    private static void gain() {
        String part = "Promise 13: gain";
        about(part, "GAIN of a set.");
        Court x = Court.of(ONE_LIE, 1, 0, 8);
        is(x.gain(0), 9);
        is(x.gain(days(0)), -11);
        is(x.gain(days(1)), -21);
        x.set(2, 7);
        // 8 is more than 7 times 1: no NEWS on the last DAY, unless he has LIED
        is(x.gain(0), 0);
        is(x.gain(days(1)), -21);
        is(x.gain(days(0)), -11);
        is(new Court().gain(0), 0);
        about(part, "Less 100000000: BAD; NOT: it is not LAWFUL.");
        refused(x, () -> x.gain(days(3)), -100000001);
        refused(x, () -> x.gain(days(0, 1)), -100000002);
        refused(x, () -> x.gain(days(2)), -100000002);
        is(x.gain(1 << 31), -100000001);
        is(x.gain(-1), -100000001);
        x.set(0, 2);
        is(x.gain(days(0, 1)), -41);
        x.set(1, 2);
        is(x.gain(days(0, 1)), -100000002);
        is(new Court().gain(1), -100000001);
        Court all = Court.of(times(28, "-1/2"));
        is(all.gain(1 << 27), 0);
        is(all.gain(1 << 28), -100000001);
    }

    private static void trusted() {
        String part = "Promise 14: trusted";
        about(part, "DAYS on which there is a WORD that THE COURT TRUSTS, by a set, as a set.");
        Court x = Court.of("+1,-1/2,-1/2,+1", 2, 0, 4);
        // 2 L is no more than D: L 2 on DAY 0 alone, L 1 on DAYS 0 .. 2
        is(x.trusted(0), days(0));
        is(x.trusted(days(1)), days(0));
        is(x.trusted(days(1, 2)), days(0, 2, 3));
        x.set(2, 8);
        is(x.trusted(0), days(0));
        is(x.trusted(days(1)), days(0, 1, 3));
        is(x.trusted(days(2)), days(0, 2, 3));
        x.set(0, 0);
        is(x.trusted(0), days(0, 3));
        x.set(0, 9);
        is(x.trusted(0), 0);
        is(new Court().trusted(0), 0);
        Court all = Court.of(times(28, "+1"), 0, 0, 0);
        is(all.trusted(0), ALL_DAYS);
        about(part, "BAD; NOT: it is not LAWFUL.");
        refused(x, () -> x.trusted(days(4)), BAD);
        refused(x, () -> x.trusted(days(0)), NOT);
        is(x.trusted(1 << 31), BAD);
        is(x.trusted(-1), BAD);
        x.set(0, 1);
        is(x.trusted(days(1, 2)), NOT);
        is(x.trusted(days(1)), days(0, 1, 3));
        is(all.trusted(1 << 27), NOT);
        is(all.trusted(1 << 28), BAD);
        is(new Court().trusted(1), BAD);
    }

    /** HARM and WORST as they follow from GAIN of each set alone. */
    private static void isLeastOfAll(Court x) {
        int least = MOST;
        int worst = 0;
        int days = x.count(0);
        for (int set = 0; set < 1 << days; set++) {
            if (x.lawful(set) == 1) {
                int gain = x.gain(set);
                int differ = Integer.lowestOneBit(set ^ worst);
                if (gain < least || gain == least && (worst & differ) != 0) {
                    least = gain;
                    worst = set;
                }
            }
        }
        is(x.harm(), least);
        is(x.worst(), worst);
    }

    private static void harmIsLeast() {
        about(TERMS, "HARM: the least GAIN of all LAWFUL sets;");
        String[] years = {"-0/5", "+5", "-0/5,-0/5,-0/0,-0/5,-0/5", "-0/9,+9,-0/9,+9,-0/9,+1,-0/9", "+9,-0/1,+9,-0/1,+9,-0/1",
            "-0/50,+1,+2,+4,+8,+16,-0/49", "-0/9,+0,+0,+0,+0,+0,+5", "-0/9,-0/8,-0/7,-0/6,-0/5,-0/4", "+7,+7,-0/0,+7,-0/0,+7"};
        for (int law = 0; law < 4; law++) {
            for (String year : years) {
                isLeastOfAll(Court.of(year, 2, law, 4));
                isLeastOfAll(Court.of(year, 3, law, 8));
                isLeastOfAll(Court.of(year, 1, law, 1));
            }
            isLeastOfAll(Court.of("-0/5,+5,-0/5", 0, law, 0));
            isLeastOfAll(Court.of("-0/5,+5,-0/5", 9, law, 8));
            isLeastOfAll(new Court());
        }
        Court x = Court.of(ONE_LIE, 1, 0, 8);
        is(x.harm(), -21);
        x.set(0, 0);
        is(x.harm(), 9);
        x.set(0, 2);
        is(x.harm(), -41);
        x.set(1, 2);
        // those two are not LAWFUL together
        is(x.harm(), -21);
    }

    private static void worstIsSilentFirst() {
        about(TERMS, "WORST: of sets by which it is so that which, on the first DAY on which two of them differ, does not LIE.");
        Court x = Court.of("-0/5,-0/5,-0/5", 1, 0, 8);
        is(x.worst(), days(2));
        x.alter(2, 2, 4);
        is(x.worst(), days(1));
        x.alter(1, 2, 4);
        is(x.worst(), days(0));
        Court two = Court.of("-0/5,-0/5,-0/5,-0/5,-0/5", 2, 0, 8);
        is(two.worst(), days(3, 4));
        two.set(1, 2);
        is(two.worst(), days(2, 4));
        two.alter(2, 2, 0);
        is(two.worst(), days(1, 4));
        two.alter(2, 2, 5);
        two.set(1, 0);
        two.alter(3, 2, 0);
        two.alter(4, 2, 0);
        is(two.worst(), days(1, 2));
        two.alter(1, 2, 0);
        two.alter(4, 2, 5);
        two.alter(2, 2, 0);
        is(two.worst(), days(0, 4));
        // LIES that win nothing are not told
        Court z = Court.of("-0/0,-0/0,-0/0", 3, 0, 8);
        is(z.harm(), 0);
        is(z.worst(), 0);
        // a LIE that wins THE COURT's trust for later NEWS does less HARM than silence
        Court w = Court.of("-0/3,+9", 1, 0, 7);
        is(w.gain(days(0)), -3 + 9);
        is(w.gain(0), 0);
        is(w.harm(), 0);
        is(w.worst(), 0);
        w.alter(1, 1, 3);
        is(w.harm(), 0);
        is(w.worst(), 0);
        w.alter(1, 1, 2);
        is(w.harm(), -1);
        is(w.worst(), days(0));
    }

    private static void harm() {
        String part = "Promise 15: harm";
        about(part, "HARM.");
        Court x = Court.of("+10,-0/4,+20", 1, 0, 8);
        is(x.harm(), 26);
        is(x.harm(), x.gain(x.worst()));
        x.alter(1, 0, 1);
        is(x.harm(), 30);
        x.set(0, 0);
        is(x.harm(), 30);
        x.setAll(3, 0, 8);
        is(x.harm(), 10);
        x.set(0, 4);
        is(x.harm(), 0);
        Court most = Court.of(times(28, "+99"), 0, 0, 8);
        is(most.harm(), 2772);
        is(new Court().harm(), 0);
        about(part, "It may be below 0.");
        Court y = Court.of("+4,-0/4", 1, 0, 8);
        is(y.harm(), 0);
        y.alter(1, 2, 5);
        is(y.harm(), -1);
        y.alter(1, 2, 99);
        is(y.harm(), -95);
        Court least = Court.of(times(28, "-99/99"), 9, 0, 8);
        is(least.harm(), -891);
        least.set(1, 3);
        is(least.harm(), -396);
        least.set(0, 3);
        is(least.harm(), -297);
    }

    private static void worst() {
        String part = "Promise 16: worst";
        about(part, "WORST, as a set.");
        is(new Court().worst(), 0);
        Court x = Court.of(times(28, "-0/9"), 1, 0, 8);
        is(x.worst(), 1 << 27);
        for (int d = 27; d > 0; d--) {
            x.alter(d, 2, 0);
            is(x.worst(), 1 << d - 1);
        }
        x.alter(0, 2, 0);
        is(x.worst(), 0);
        x.alter(0, 2, 1);
        is(x.worst(), 1);
        x.set(0, 0);
        is(x.worst(), 0);
        Court all = Court.of(times(28, "-0/9"), 9, 0, 8);
        is(all.worst(), span(19, 27));
        all.set(1, 1);
        is(all.worst(), span(17, 26) - days(20));
        all.set(1, 2);
        is(all.worst(), days(11, 13, 15, 17, 19, 21, 23, 25, 27));
        all.set(1, 3);
        // with L 9, 8, 7, 6 on them: on DAY 22 D is 6
        is(all.worst(), days(6, 13, 20, 22));
        all.set(0, 4);
        is(all.worst(), days(6, 13, 20, 27));
        all.set(0, 3);
        is(all.worst(), days(13, 20, 27));
    }

    private static void best() {
        about(TERMS, "BEST TRUST: that of 0 .. 8 by which HARM is most, of like ones the least.");
        Court x = Court.of("+10,+10,+10,-0/1", 1, 0, 4);
        // 8 is no more than T times D for D 4, 3, 2 by T 2, 3, 4: a LIE on the last DAY costs by T 8 alone
        int[] harms = {0, 0, 10, 20, 30, 30, 30, 30, 29};
        for (int trust = 0; trust <= 8; trust++) {
            x.set(2, trust);
            is(x.harm(), harms[trust]);
            is(x.best(), 4);
            is(x.count(4), trust);
        }
        Court eight = Court.of("+9", 1, 0, 4);
        is(eight.best(), 8);
        Court one = Court.of("+1,+0,+0,+0,+0,+0,+0,-0/9", 1, 0, 4);
        is(one.best(), 1);
        one.alter(7, 0, 1);
        is(one.best(), 1);
        one.alter(7, 1, 1);
        is(one.best(), 8);
        about("Promise 17: best", "BEST TRUST.");
        is(new Court().best(), 0);
        Court zero = Court.of("-0/1,-0/1", 2, 0, 4);
        is(zero.best(), 0);
        zero.set(0, 0);
        is(zero.best(), 0);
        Court allLikeHigh = Court.of("+5,+5", 0, 0, 8);
        is(allLikeHigh.best(), 0);
        allLikeHigh.set(0, 1);
        is(allLikeHigh.best(), 8);
        allLikeHigh.set(0, 2);
        is(allLikeHigh.best(), 8);
        allLikeHigh.alter(1, 1, 0);
        is(allLikeHigh.best(), 8);
        allLikeHigh.set(0, 1);
        is(allLikeHigh.best(), 4);
        allLikeHigh.set(0, 3);
        is(allLikeHigh.best(), 0);
        Court all = Court.of(times(28, "+1"), 9, 0, 4);
        is(all.best(), 8);
    }

    private static void price() {
        about(TERMS, "PRICE: HARM as it is, less HARM if he had one of LIES more.");
        Court x = Court.of("-0/20,-0/30,+9,-0/1", 0, 0, 8);
        is(x.price(), 9 - (9 - 30));
        is(x.count(2), 0);
        x.set(0, 1);
        is(x.harm(), -21);
        is(x.price(), 20);
        x.set(0, 2);
        is(x.harm(), -41);
        is(x.price(), 1);
        x.set(0, 3);
        is(x.harm(), -42);
        String part = "Promise 18: price";
        about(part, "PRICE.");
        Court y = Court.of("-0/7", 0, 0, 8);
        is(y.price(), 7);
        y.set(2, 7);
        is(y.price(), 0);
        is(Court.of("+7", 0, 0, 8).price(), 0);
        is(Court.of("+7", 0, 0, 7).price(), 7);
        is(Court.of("", 0, 0, 7).price(), 0);
        about(part, "It may be below 0.");
        Court z = Court.of("-0/30,-0/20", 2, 0, 8);
        is(z.harm(), -50);
        is(z.price(), -50);
        z.set(0, 3);
        is(z.harm(), 0);
        is(z.price(), 0);
        z.set(0, 1);
        is(z.price(), 20);
        about(part, "Less 100000000: NOT: he has 9.");
        z.set(0, 8);
        is(z.price(), 0);
        z.set(0, 9);
        refused(z, () -> z.price(), -100000002);
        is(z.count(2), 9);
        Court all = Court.of(times(28, "-0/2"), 8, 0, 8);
        is(all.price(), 2);
        all.set(0, 9);
        is(all.price(), -100000002);
        is(new Court().price(), -100000002);
    }

    private static void under() {
        about(TERMS, "UNDER a LAW: HARM, if that were THE LAW.");
        Court x = Court.of("-0/5,-0/6,-0/7,-0/8,-0/9,-0/9,-0/90,-0/80,-0/1", 2, 0, 8);
        int[] due = {-170, -89, -99, -91};
        for (int law = 0; law < 4; law++) {
            x.set(1, law);
            is(x.harm(), due[law]);
            for (int other = 0; other < 4; other++) {
                is(x.under(other), due[other]);
            }
            is(x.count(3), law);
        }
        String part = "Promise 19: under";
        about(part, "UNDER a LAW.");
        is(new Court().under(0), 0);
        is(new Court().under(3), 0);
        Court all = Court.of(times(28, "-0/99"), 9, 0, 8);
        is(all.under(0), -891);
        is(all.under(1), -891);
        is(all.under(2), -891);
        is(all.under(3), -396);
        about(part, "BAD less 100000000.");
        is(all.under(3), -396);
        refused(all, () -> all.under(4), -100000001);
        refused(all, () -> all.under(-1), -100000001);
        for (int wild : WILD) {
            is(all.under(wild), -100000001);
        }
        is(all.under(0), -891);
    }

    private static void sure(Court x, int[] of, int above, int below) {
        is(x.sure(of[0], of[1], of[2], of[3], 0), above);
        is(x.sure(of[0], of[1], of[2], of[3], 1), below);
    }

    private static void foot() {
        about(TERMS, "FOOT: of LIES the left one is ahead in f of 8, of true WORDS in g of 8.");
        Court x = new Court();
        sure(x, new int[] {8, 8, 1, 2}, 1, 2);
        sure(x, new int[] {8, 4, 1, 2}, 2, 3);
        sure(x, new int[] {4, 8, 1, 2}, 1, 3);
        sure(x, new int[] {8, 0, 1, 2}, 1, 1);
        sure(x, new int[] {0, 8, 1, 2}, 0, 1);
        sure(x, new int[] {1, 1, 1, 2}, 1, 2);
        about(TERMS, "SURE for L LIES among D WORDS to come, any of which may be one as likely: "
            + "how likely a WORD with the left foot ahead is a LIE, as a fraction.");
        sure(x, new int[] {5, 3, 0, 9}, 0, 1);
        sure(x, new int[] {5, 3, 1, 9}, 5, 29);
        sure(x, new int[] {5, 3, 8, 9}, 40, 43);
        sure(x, new int[] {5, 3, 9, 9}, 1, 1);
        sure(x, new int[] {6, 2, 3, 12}, 1, 2);
        sure(x, new int[] {6, 2, 3, 13}, 9, 19);
        for (int lies = 0; lies <= 99; lies++) {
            int above = lies * 7;
            int below = above + (99 - lies) * 2;
            long got = x.sure(7, 2, lies, 99, 0);
            long gotBelow = x.sure(7, 2, lies, 99, 1);
            is((int) (got * below - gotBelow * above), 0);
        }
    }

    private static void sure() {
        about("Promise 20: sure",
            "SURE of a left foot: f, g (0 .. 8), L LIES (0 .. 99) among D WORDS (1 .. 99, no fewer).");
        Court x = new Court();
        sure(x, new int[] {0, 8, 1, 2}, 0, 1);
        sure(x, new int[] {8, 0, 1, 2}, 1, 1);
        sure(x, new int[] {8, 8, 99, 99}, 1, 1);
        sure(x, new int[] {8, 8, 98, 99}, 98, 99);
        sure(x, new int[] {8, 8, 0, 1}, 0, 1);
        sure(x, new int[] {8, 8, 1, 1}, 1, 1);
        sure(x, new int[] {1, 1, 0, 99}, 0, 1);
        sure(x, new int[] {8, 1, 98, 99}, 784, 785);
        int[][] bad = {{-1, 5, 1, 2}, {9, 5, 1, 2}, {5, -1, 1, 2}, {5, 9, 1, 2}, {5, 5, -1, 2}, {5, 5, 100, 100},
            {5, 5, 100, 99}, {5, 5, 0, 0}, {5, 5, 0, -1}, {5, 5, 1, 100}, {5, 5, 3, 2}, {5, 5, 2, 1}};
        for (int[] b : bad) {
            sure(x, b, BAD, BAD);
        }
    }

    private static void sureRefused() {
        about("Promise 20: sure", "BAD; NONE: it is never ahead.");
        Court x = new Court();
        for (int wild : WILD) {
            sure(x, new int[] {wild, 5, 1, 2}, BAD, BAD);
            sure(x, new int[] {5, wild, 1, 2}, BAD, BAD);
            sure(x, new int[] {5, 5, wild, 2}, BAD, BAD);
            sure(x, new int[] {5, 5, 1, wild}, BAD, BAD);
            is(x.sure(5, 5, 1, 2, wild), BAD);
        }
        is(x.sure(5, 5, 1, 2, 2), BAD);
        is(x.sure(0, 0, 1, 2, 2), BAD);
        sure(x, new int[] {0, 0, 1, 2}, NONE, NONE);
        sure(x, new int[] {0, 0, 0, 1}, NONE, NONE);
        sure(x, new int[] {0, 0, 99, 99}, NONE, NONE);
        sure(x, new int[] {0, 1, 1, 2}, 0, 1);
        sure(x, new int[] {1, 0, 1, 2}, 1, 1);
        // of LIES never, and there are no others; of true ones never, and there are no LIES
        sure(x, new int[] {0, 8, 9, 9}, NONE, NONE);
        sure(x, new int[] {0, 8, 8, 9}, 0, 1);
        sure(x, new int[] {8, 0, 0, 9}, NONE, NONE);
        sure(x, new int[] {8, 0, 1, 9}, 1, 1);
    }

    private static void bet(Court x, int forLie, int forTrue, int a, int b) {
        is(x.bet(forLie, forTrue, 0), a);
        is(x.bet(forLie, forTrue, 1), b);
    }

    private static void betSentence() {
        about(TERMS, "A BET: one pays x for 1, if it is a LIE, another one y for 1, if it is true "
            + "(whole numbers; what was laid is lost otherwise).");
        Court x = new Court();
        // x belongs to the stake on a LIE, y to that on true
        bet(x, 1, 3, 2, 1);
        bet(x, 3, 1, 1, 2);
        bet(x, 2, 2, 1, 1);
        // what is laid is paid from what is won: 1 for 1 wins nothing
        bet(x, 1, 1, NONE, NONE);
    }

    private static void stakes() {
        about(TERMS, "STAKES a on a LIE, b on true (1 .. 99 each): SURE GAIN, if both x times a less b and y times b less a "
            + "are above 0: the least a and b together, of like ones the least a.");
        for (int forLie = 0; forLie < 100; forLie += forLie < 12 ? 1 : 29) {
            Court x = new Court();
            for (int forTrue = 0; forTrue < 100; forTrue += forTrue < 12 ? 1 : 29) {
                int a = NONE;
                int b = NONE;
                for (int both = 2; both <= 198 && a == NONE; both++) {
                    for (int on = Math.max(1, both - 99); on <= Math.min(99, both - 1) && a == NONE; on++) {
                        if (forLie * on - (both - on) > 0 && forTrue * (both - on) - on > 0) {
                            a = on;
                            b = both - on;
                        }
                    }
                }
                bet(x, forLie, forTrue, a, b);
            }
        }
        Court y = new Court();
        bet(y, 1, 2, 3, 2);
        bet(y, 2, 1, 2, 3);
        bet(y, 99, 1, 1, 2);
        bet(y, 1, 99, 2, 1);
        bet(y, 99, 99, 1, 1);
    }

    private static void bet() {
        String part = "Promise 21: bet";
        about(part, "A BET (x, y 0 .. 99): a (0), b (1).");
        Court x = new Court();
        bet(x, 99, 2, 1, 1);
        bet(x, 2, 99, 1, 1);
        bet(x, 0, 0, NONE, NONE);
        bet(x, 99, 0, NONE, NONE);
        bet(x, 0, 99, NONE, NONE);
        bet(x, 100, 2, BAD, BAD);
        bet(x, 2, 100, BAD, BAD);
        bet(x, -1, 2, BAD, BAD);
        bet(x, 2, -1, BAD, BAD);
        about(part, "BAD; NONE: there is none.");
        is(x.bet(2, 2, 1), 1);
        is(x.bet(2, 2, 2), BAD);
        is(x.bet(2, 2, -1), BAD);
        is(x.bet(0, 2, 2), BAD);
        for (int wild : WILD) {
            is(x.bet(wild, 2, 0), BAD);
            is(x.bet(2, wild, 1), BAD);
            is(x.bet(2, 2, wild), BAD);
        }
        bet(x, 1, 1, NONE, NONE);
        bet(x, 0, 1, NONE, NONE);
        bet(x, 1, 0, NONE, NONE);
        bet(x, 2, 0, NONE, NONE);
        bet(x, 1, 2, 3, 2);
    }
}
