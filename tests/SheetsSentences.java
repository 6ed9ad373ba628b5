/** Promises 28 to 33, sentence by sentence. */
final class SheetsSentences extends Sentences {
    static void all() {
        judged();
        judgedRefused();
        judgedIndex();
        judgedNot();
        film();
        filmRefused();
        sheet();
        sheetRefused();
        drop();
        item();
        itemRefused();
        copy();
        copyNull();
        copyCast();
        copyIndex();
    }

    private static void judged() {
        about("Promise 28: judged", "A row of LIES told as n DAYS (0 .. 9; rising), items of a SHEET, "
            + "taken as a row of a LANE, from one on: GAIN.");
        for (int lane = 0; lane < 3; lane++) {
            Court x = Court.of("-0/1,-0/2,+64,-0/4,-0/8", 3, 0, 8);
            x.row(lane, lane, 9, 0, 1, 3, 4);
            is(x.judged(lane, lane, 0, 0), x.gain(0));
            is(x.judged(lane, lane, 1, 1), 64 - 1);
            is(x.judged(lane, lane, 2, 2), 64 - 2 - 4);
            is(x.judged(lane, lane, 1, 3), 64 - 1 - 2 - 4);
            is(x.judged(lane, lane, 2, 3), x.gain(days(1, 3, 4)));
            is(x.judged(lane, lane, 4, 1), 64);
            is(x.judged(lane, lane, 5, 0), 64);
            is(x.judged(lane, lane, 0, 1), NOT - LESS);
            Court all = Court.of(times(28, "-0/11"), 9, 0, 8);
            all.row(3, lane, 19, 20, 21, 22, 23, 24, 25, 26, 27, 27);
            is(all.judged(3, lane, 0, 9), -99);
            is(all.judged(3, lane, 0, 8), -88);
            is(all.judged(3, lane, 0, 10), BAD - LESS);
            is(all.judged(3, lane, 8, 1), 0);
            is(all.judged(3, lane, 1, 9), NOT - LESS);
            all.row(3, lane, 18, 20, 21, 22, 23, 24, 25, 26, 27);
            is(all.judged(3, lane, 0, 9), -99);
            all.row(3, lane, 0, 1, 2, 3, 4, 5, 6, 7, 8);
            is(all.judged(3, lane, 0, 9), -99);
            all.set(0, 8);
            is(all.judged(3, lane, 0, 9), NOT - LESS);
            is(all.judged(3, lane, 0, 8), -88);
        }
    }

    private static void judgedRefused() {
        String part = "Promise 28: judged";
        about(part, "Less 100000000: BAD; NULL; CAST;");
        Court x = Court.of("-0/1,-0/2,-0/4", 9, 0, 8);
        x.row(0, 1, 0, 1, 2, 0, 0, 0, 0, 0, 0, 0);
        is(x.judged(0, 1, 0, 3), 0);
        int[][] bad = {{-1, 1, 0, 1}, {4, 1, 0, 1}, {0, -1, 0, 1}, {0, 3, 0, 1}, {0, 1, 0, -1}, {0, 1, 0, 10},
            {1, 1, 0, 10}, {1, 3, 0, 1}, {0, 2, 0, 10}, {0, 1, 11, 10}};
        for (int[] b : bad) {
            refused(x, () -> x.judged(b[0], b[1], b[2], b[3]), -100000001);
        }
        for (int wild : WILD) {
            is(x.judged(wild, 1, 0, 1), -100000001);
            is(x.judged(0, wild, 0, 1), -100000001);
            is(x.judged(0, 1, 0, wild), -100000001);
        }
        for (int lane = 0; lane < 3; lane++) {
            is(x.judged(1, lane, 0, 0), -100000011);
            is(x.judged(2, lane, -1, 9), -100000011);
            is(x.judged(3, lane, 0, 1), -100000011);
            is(x.judged(0, lane, 0, 0), lane == 1 ? 0 : -100000012);
            is(x.judged(0, lane, 99, 1), lane == 1 ? -100000013 : -100000012);
        }
        x.drop(0);
        is(x.judged(0, 1, 0, 3), -100000011);
    }

    private static void judgedIndex() {
        about("Promise 28: judged", "INDEX (from below 0 or above how many items there are, too, though none is taken);");
        Court x = Court.of("-0/1,-0/2,-0/4", 9, 0, 8);
        x.row(0, 1, 2, 1, 2);
        is(x.judged(0, 1, 0, 0), 0);
        is(x.judged(0, 1, 3, 0), 0);
        is(x.judged(0, 1, 2, 1), 0);
        is(x.judged(0, 1, 1, 2), 0);
        refused(x, () -> x.judged(0, 1, -1, 0), -100000013);
        refused(x, () -> x.judged(0, 1, 4, 0), -100000013);
        refused(x, () -> x.judged(0, 1, 3, 1), -100000013);
        refused(x, () -> x.judged(0, 1, 2, 2), -100000013);
        is(x.judged(0, 1, 0, 4), -100000013);
        is(x.judged(0, 1, 1, 9), -100000013);
        is(x.judged(0, 1, -1, 2), -100000013);
        for (int wild : WILD) {
            is(x.judged(0, 1, wild, 0), -100000013);
            is(x.judged(0, 1, wild, 9), -100000013);
        }
        x.sheet(1, 0, 0);
        is(x.judged(1, 0, 0, 0), 0);
        is(x.judged(1, 0, 1, 0), -100000013);
        is(x.judged(1, 0, 0, 1), -100000013);
        x.sheet(1, 0, 28);
        is(x.judged(1, 0, 28, 0), 0);
        is(x.judged(1, 0, 27, 1), 0);
        is(x.judged(1, 0, 28, 1), -100000013);
        is(x.judged(1, 0, 29, 0), -100000013);
        Court none = new Court();
        none.sheet(1, 0, 1);
        is(none.judged(1, 0, 1, 0), 0);
        is(none.judged(1, 0, 2, 0), -100000013);
    }

    private static void judgedNot() {
        about("Promise 28: judged", "NOT: they are not as told, not LAWFUL.");
        Court x = Court.of("-0/1,-0/2,+0,-0/4,-0/8,-0/16", 3, 0, 8);
        x.row(0, 2, 0, 0, 1, 0, 2, 3, 4, 5, 6);
        is(x.judged(0, 2, 1, 2), -3);
        refused(x, () -> x.judged(0, 2, 0, 2), -100000002);
        refused(x, () -> x.judged(0, 2, 2, 2), -100000002);
        is(x.judged(0, 2, 4, 1), -100000002);
        is(x.judged(0, 2, 5, 3), -4 - 8 - 16);
        is(x.judged(0, 2, 7, 1), 0);
        is(x.judged(0, 2, 8, 1), -100000002);
        is(x.judged(0, 2, 7, 2), -100000002);
        x.set(0, 2);
        is(x.judged(0, 2, 5, 3), -100000002);
        is(x.judged(0, 2, 5, 2), -4 - 8);
        x.set(1, 2);
        is(x.judged(0, 2, 5, 2), -100000002);
        is(x.judged(0, 2, 1, 1), -1);
        int[] noDays = {-1, 6, 7, 27, 28, 31, 32, 33, 64, 127, -128, -32, LEAST, MOST};
        for (int day : noDays) {
            x.item(0, 2, 0, day);
            is(x.judged(0, 2, 0, 1), -100000002);
            is(x.judged(0, 2, 0, 2), -100000002);
        }
        x.item(0, 2, 0, 5);
        x.set(0, 1);
        is(x.judged(0, 2, 0, 1), -16);
        Court none = new Court();
        none.row(0, 0, 0);
        is(none.judged(0, 0, 0, 0), 0);
        is(none.judged(0, 0, 0, 1), -100000002);
        Court all = Court.of(times(28, "-0/1"), 9, 0, 8);
        all.row(0, 0, 27, 28);
        is(all.judged(0, 0, 0, 1), 0);
        is(all.judged(0, 0, 1, 1), -100000002);
        is(all.judged(0, 0, 0, 2), -100000002);
    }

    /** Items shown in a YEAR of dear DAYS, which an IMAGE made ahead brings back. */
    private static String shown(Court x, int sheet, int lane, int n) {
        x.restore();
        return x.itemsOf(sheet, lane, n);
    }

    private static Court readyForFilm(String year) {
        Court x = Court.thatShowsItems();
        x.image();
        x.typeAll(year);
        x.year();
        return x;
    }

    private static void film() {
        about("Promise 29: film", "What THE COURT has on each DAY by a set comes to a SHEET likewise: how many DAYS.");
        for (int lane = 0; lane < 3; lane++) {
            Court x = readyForFilm("+7/9,-5/0,-6/3,+9,-8/4,+1/1");
            x.setAll(3, 0, 8);
            x.row(lane, lane, 20, 20, 20, 20, 20, 20, 20, 20);
            // DAY 1: a LIE that costs nothing; 2: one that costs 3; 3, 5: NEWS; 4: silence
            is(x.film(days(1, 2), lane, lane, 1), 6);
            same("the SHEET", shown(x, lane, lane, 8), "20 7 0 -1 9 0 1 20");
            Court y = readyForFilm("+7/9,+5,+6,+9");
            y.setAll(3, 0, 8);
            y.row(3, lane, 20, 20, 20, 20);
            // L 3: TRUSTED on DAYS 0, 1 alone
            is(y.film(0, 3, lane, 0), 4);
            same("the SHEET", shown(y, 3, lane, 4), "7 5 0 0");
            Court none = Court.thatShowsItems();
            none.image();
            none.row(0, lane, 20, 21);
            for (int d = 0; d < 28; d++) {
                none.strike();
            }
            is(none.film(0, 0, lane, 0), 0);
            is(none.film(0, 0, lane, 2), 0);
            same("the SHEET", shown(none, 0, lane, 2), "20 21");
            Court all = readyForFilm(times(28, "+3"));
            all.set(0, 0);
            all.sheet(0, lane, 28);
            is(all.film(0, 0, lane, 0), 28);
            same("the SHEET", shown(all, 0, lane, 28), times(28, " 3").strip().replace(",", ""));
        }
    }

    private static void filmRefused() {
        about("Promise 29: film", "BAD; NOT: it is not LAWFUL; NULL; CAST; INDEX (likewise).");
        Court x = readyForFilm("-0/5,+7,-0/5");
        x.setAll(1, 0, 8);
        x.row(0, 1, 20, 21, 22, 23);
        int[][] calls = {{1, 4, 1, 0, BAD}, {1, -1, 1, 0, BAD}, {1, 0, 3, 0, BAD}, {1, 0, -1, 0, BAD}, {8, 0, 1, 0, BAD},
            {-1, 0, 1, 0, BAD}, {1 << 31, 0, 1, 0, BAD}, {2, 0, 3, 0, BAD}, {2, 4, 1, 0, BAD}, {9, 0, 1, 0, BAD},
            {2, 0, 1, 0, NOT}, {5, 0, 1, 0, NOT}, {2, 1, 1, 0, NOT}, {2, 0, 0, 0, NOT}, {2, 0, 1, 2, NOT},
            {1, 1, 1, 0, NULL}, {1, 3, 2, 9, NULL}, {1, 0, 0, 0, CAST}, {1, 0, 2, 9, CAST}, {1, 0, 2, -1, CAST},
            {1, 0, 1, 2, INDEX}, {1, 0, 1, 4, INDEX}, {1, 0, 1, 5, INDEX}, {1, 0, 1, -1, INDEX}, {0, 0, 1, 2, INDEX},
            {1, 0, 1, LEAST, INDEX}, {1, 0, 1, MOST, INDEX}, {1, 0, 1, MOST - 2, INDEX}, {1, LEAST, 1, 0, BAD}, {1, MOST, 1, 0, BAD},
            {1, 0, LEAST, 0, BAD}, {1, 0, MOST, 0, BAD}};
        for (int[] c : calls) {
            is(x.film(c[0], c[1], c[2], c[3]), c[4]);
        }
        same("the SHEET", shown(x, 0, 1, 4), "20 21 22 23");
        Court fits = readyForFilm("-0/5,+7,-0/5");
        fits.setAll(1, 0, 8);
        fits.row(0, 1, 20, 21, 22, 23);
        is(fits.film(1, 0, 1, 1), 3);
        is(fits.film(4, 0, 1, 1), 3);
        same("the SHEET", shown(fits, 0, 1, 4), "20 0 7 -1");
        Court none = new Court();
        none.sheet(0, 0, 2);
        is(none.film(0, 0, 0, 2), 0);
        is(none.film(0, 0, 0, 3), INDEX);
        is(none.film(0, 0, 0, -1), INDEX);
        is(none.film(1, 0, 0, 0), BAD);
        Court all = Court.of(times(28, "+3"), 0, 0, 8);
        all.sheet(0, 0, 27);
        refused(all, () -> all.film(0, 0, 0, 0), INDEX);
        all.sheet(0, 0, 28);
        is(all.film(0, 0, 0, 0), 28);
        is(all.film(0, 0, 0, 1), INDEX);
    }

    private static void sheet() {
        String part = "Promise 30: sheet";
        about(part, "A SHEET holds a new row of a LANE: n.");
        Court x = Court.thatShowsItems();
        for (int s = 0; s < 4; s++) {
            for (int lane = 0; lane < 3; lane++) {
                is(x.sheet(s, lane, 2), 2);
                same("the new row", x.itemsOf(s, lane, 2), "0 0");
                x.item(s, lane, 0, 5);
                x.item(s, lane, 1, 6);
                is(x.sheet(s, lane, 3), 3);
                same("the newer row", x.itemsOf(s, lane, 3), "0 0 0");
                is(x.item(s, lane, 3, 1), INDEX);
                is(x.sheet(s, lane, 0), 0);
                is(x.item(s, lane, 0, 1), INDEX);
                is(x.judged(s, lane, 0, 0), 0);
                is(x.sheet(s, lane, 28), 28);
                is(x.item(s, lane, 27, 1), 1);
                is(x.item(s, lane, 28, 1), INDEX);
            }
            is(x.drop(s), 28);
        }
    }

    private static void sheetRefused() {
        String part = "Promise 30: sheet";
        about(part, "BAD: also n above 28;");
        Court x = Court.thatShowsItems();
        x.row(0, 1, 4, 5);
        is(x.sheet(0, 1, 29), BAD);
        is(x.sheet(0, 2, 29), BAD);
        is(x.sheet(0, 1, MOST), BAD);
        is(x.sheet(4, 1, 2), BAD);
        is(x.sheet(-1, 1, 2), BAD);
        is(x.sheet(0, 3, 2), BAD);
        is(x.sheet(0, -1, 2), BAD);
        is(x.sheet(4, 1, -1), BAD);
        is(x.sheet(0, 3, -1), BAD);
        for (int wild : WILD) {
            is(x.sheet(wild, 1, 2), BAD);
            is(x.sheet(0, wild, 2), BAD);
            is(x.sheet(0, 1, wild), wild < 0 ? SIZE : BAD);
        }
        same("the SHEET", x.itemsOf(0, 1, 2), "4 5");
        is(x.drop(0), 2);
        is(x.drop(1), NULL);
        is(x.sheet(0, 1, 28), 28);
        about(part, "SIZE: n below 0.");
        is(x.sheet(0, 1, 0), 0);
        is(x.sheet(0, 1, -1), SIZE);
        is(x.sheet(0, 1, LEAST), SIZE);
        is(x.sheet(1, 2, -1), SIZE);
        is(x.drop(1), NULL);
        is(x.drop(0), 0);
        is(x.sheet(0, 1, -1), SIZE);
        is(x.drop(0), NULL);
    }

    private static void drop() {
        String part = "Promise 31: drop";
        about(part, "A SHEET holds nothing: how many items it had.");
        Court x = new Court();
        for (int s = 0; s < 4; s++) {
            for (int n = 0; n <= 28; n += 7) {
                x.sheet(s, s % 3, n);
                is(x.drop(s), n);
                is(x.item(s, s % 3, 0, 1), NULL);
                is(x.judged(s, s % 3, 0, 0), NULL - LESS);
                is(x.film(0, s, s % 3, 0), NULL);
            }
        }
        x.sheet(1, 0, 5);
        x.sheet(2, 0, 6);
        is(x.drop(1), 5);
        is(x.drop(2), 6);
        about(part, "BAD; NULL.");
        x.sheet(3, 2, 9);
        is(x.drop(4), BAD);
        is(x.drop(-1), BAD);
        for (int wild : WILD) {
            is(x.drop(wild), BAD);
        }
        for (int s = 0; s < 3; s++) {
            is(x.drop(s), NULL);
        }
        is(x.drop(3), 9);
        is(x.drop(3), NULL);
        is(x.drop(3), NULL);
    }

    private static void item() {
        about("Promise 32: item",
            "Item i of a SHEET, taken as a row of a LANE, becomes v, its lowest bits (with its sign): 1.");
        Court x = Court.thatShowsItems();
        // bytes, shorts, ints: which of them have just these lowest bits
        int[][] values = {{5, 5, 5, 5}, {0, 0, 0, 0}, {27, 27, 27, 27}, {28, -1, -1, -1}, {-1, -1, -1, -1}, {127, -1, -1, -1},
            {128, -1, -1, -1}, {255, -1, -1, -1}, {256, 0, -1, -1}, {256 + 7, 7, -1, -1}, {-256 + 7, 7, -1, -1},
            {(1 << 15) + 7, 7, -1, -1}, {(1 << 16) + 7, 7, 7, -1}, {-(1 << 16) + 7, 7, 7, -1}, {(1 << 24) + 8, 8, 8, -1},
            {LEAST, 0, 0, -1}, {LEAST + 9, 9, 9, -1}, {MOST, -1, -1, -1}, {MOST - 255, 0, -1, -1}, {MOST - 65535, 0, 0, -1},
            {(1 << 7) + 7, -1, -1, -1}, {26, 26, 26, 26}};
        for (int lane = 0; lane < 3; lane++) {
            is(x.sheet(lane, lane, 3), 3);
            for (int[] v : values) {
                is(x.item(lane, lane, 1, v[0]), 1);
                is(x.itemOf(lane, lane, 1), v[lane + 1]);
            }
            is(x.item(lane, lane, 2, 4), 1);
            is(x.item(lane, lane, 0, 3), 1);
            same("the SHEET", x.itemsOf(lane, lane, 3), "3 26 4");
        }
    }

    private static void itemRefused() {
        about("Promise 32: item", "BAD; NULL; CAST; INDEX.");
        Court x = Court.thatShowsItems();
        x.row(0, 1, 4, 5, 6);
        is(x.item(0, 1, 2, 7), 1);
        is(x.item(0, 1, 3, 8), INDEX);
        is(x.item(0, 1, 0, 3), 1);
        is(x.item(0, 1, -1, 8), INDEX);
        for (int wild : WILD) {
            is(x.item(0, 1, wild, 8), INDEX);
            is(x.item(wild, 1, 0, 8), BAD);
            is(x.item(0, wild, 0, 8), BAD);
        }
        is(x.item(4, 1, 0, 8), BAD);
        is(x.item(0, 3, 0, 8), BAD);
        is(x.item(1, 3, 9, 8), BAD);
        is(x.item(0, 0, 0, 8), CAST);
        is(x.item(0, 2, 0, 8), CAST);
        is(x.item(0, 2, 9, 8), CAST);
        for (int s = 1; s < 4; s++) {
            for (int lane = 0; lane < 3; lane++) {
                is(x.item(s, lane, 0, 8), NULL);
                is(x.item(s, lane, -1, 8), NULL);
            }
        }
        same("the SHEET", x.itemsOf(0, 1, 3), "3 5 7");
        x.sheet(1, 2, 28);
        is(x.item(1, 2, 27, 8), 1);
        is(x.item(1, 2, 28, 8), INDEX);
        x.sheet(1, 2, 0);
        is(x.item(1, 2, 0, 8), INDEX);
    }

    private static void copy() {
        about("Promise 33: copy",
            "n items of a SHEET from i on come to another one (or the same) from j on, as if all were taken ahead: n.");
        for (int lane = 0; lane < 3; lane++) {
            Court x = Court.thatShowsItems();
            x.row(0, lane, 1, 2, 3, 4, 5);
            x.row(1, lane, 11, 12, 13);
            is(x.copy(0, 1, 1, 1, 2), 2);
            same("the one it came to", x.itemsOf(1, lane, 3), "11 2 3");
            same("the one it came from", x.itemsOf(0, lane, 5), "1 2 3 4 5");
            is(x.copy(1, 0, 0, 2, 3), 3);
            same("the one it came to", x.itemsOf(0, lane, 5), "1 2 11 2 3");
            x.row(0, lane, 1, 2, 3, 4, 5);
            is(x.copy(0, 0, 0, 1, 4), 4);
            same("the same, up", x.itemsOf(0, lane, 5), "1 1 2 3 4");
            x.row(0, lane, 1, 2, 3, 4, 5);
            is(x.copy(0, 1, 0, 0, 4), 4);
            same("the same, down", x.itemsOf(0, lane, 5), "2 3 4 5 5");
            is(x.copy(0, 0, 0, 0, 5), 5);
            same("the same, in place", x.itemsOf(0, lane, 5), "2 3 4 5 5");
            is(x.copy(0, 0, 1, 0, 0), 0);
            same("none came", x.itemsOf(1, lane, 3), "11 2 3");
            // they are taken, not shared
            is(x.copy(0, 0, 1, 0, 3), 3);
            x.item(0, lane, 0, 20);
            same("the one it came to", x.itemsOf(1, lane, 3), "2 3 4");
            x.item(1, lane, 1, 21);
            same("the one it came from", x.itemsOf(0, lane, 5), "20 3 4 5 5");
            x.sheet(2, lane, 28);
            x.sheet(3, lane, 28);
            x.item(2, lane, 27, 9);
            is(x.copy(2, 0, 3, 0, 28), 28);
            is(x.itemOf(3, lane, 27), 9);
            is(x.copy(2, 27, 3, 0, 1), 1);
            is(x.itemOf(3, lane, 0), 9);
        }
        about("Promise 33: copy", "BAD;");
        Court y = Court.thatShowsItems();
        y.row(0, 0, 1, 2, 3);
        y.row(3, 0, 4, 5, 6);
        is(y.copy(0, 0, 4, 0, 1), BAD);
        is(y.copy(4, 0, 0, 0, 1), BAD);
        for (int wild : WILD) {
            is(y.copy(wild, 0, 3, 0, 1), BAD);
            is(y.copy(0, 0, wild, 0, 1), BAD);
        }
        is(y.copy(1, 0, 4, 0, 1), BAD);
        is(y.copy(4, 0, 1, 0, 1), BAD);
        is(y.copy(-1, 9, 0, 9, -1), BAD);
        same("SHEET 3", y.itemsOf(3, 0, 3), "4 5 6");
        is(y.copy(0, 0, 3, 0, 1), 1);
        same("SHEET 3", y.itemsOf(3, 0, 3), "1 5 6");
    }

    private static void copyNull() {
        about("Promise 33: copy", "NULL (either);");
        Court x = Court.thatShowsItems();
        x.row(0, 0, 1, 2, 3);
        is(x.copy(0, 0, 1, 0, 1), NULL);
        is(x.copy(1, 0, 0, 0, 1), NULL);
        is(x.copy(1, 0, 1, 0, 0), NULL);
        is(x.copy(1, 0, 2, 0, 0), NULL);
        is(x.copy(0, 9, 1, 9, -1), NULL);
        same("the SHEET", x.itemsOf(0, 0, 3), "1 2 3");
        is(x.copy(0, 0, 0, 0, 0), 0);
        x.sheet(1, 0, 0);
        is(x.copy(0, 0, 1, 0, 0), 0);
        is(x.copy(1, 0, 0, 0, 0), 0);
        x.drop(1);
        is(x.copy(0, 0, 1, 0, 0), NULL);
        is(x.copy(1, 0, 0, 0, 0), NULL);
    }

    private static void copyCast() {
        about("Promise 33: copy", "CAST: of unlike LANES;");
        for (int from = 0; from < 3; from++) {
            for (int to = 0; to < 3; to++) {
                Court x = Court.thatShowsItems();
                x.row(0, from, 1, 2, 3);
                x.row(1, to, 4, 5, 6);
                is(x.copy(0, 0, 1, 0, 2), from == to ? 2 : CAST);
                same("SHEET 1", x.itemsOf(1, to, 3), from == to ? "1 2 6" : "4 5 6");
                is(x.copy(0, 0, 1, 0, 0), from == to ? 0 : CAST);
                is(x.copy(0, 9, 1, -1, 5), from == to ? INDEX : CAST);
                same("SHEET 0", x.itemsOf(0, from, 3), "1 2 3");
            }
        }
    }

    private static void copyIndex() {
        about("Promise 33: copy", "INDEX (n below 0, too; with n 0, too, if i or j is below 0 or above how many there are).");
        Court x = Court.thatShowsItems();
        x.row(0, 2, 1, 2, 3, 4);
        x.row(1, 2, 11, 12);
        int[][] calls = {{0, 0, -1, INDEX}, {4, 2, -1, INDEX}, {1, 1, LEAST, INDEX}, {-1, 0, 0, INDEX}, {0, -1, 0, INDEX},
            {5, 0, 0, INDEX}, {0, 3, 0, INDEX}, {4, 2, 0, 0}, {0, 0, 0, 0}, {4, 0, 1, INDEX}, {0, 2, 1, INDEX},
            {3, 0, 2, INDEX}, {0, 1, 2, INDEX}, {0, 0, 3, INDEX}, {2, 0, 3, INDEX}, {-1, 0, 2, INDEX}, {0, -1, 2, INDEX},
            {MOST, 0, 0, INDEX}, {MOST, 0, 1, INDEX}, {MOST, 0, MOST, INDEX}, {0, MOST, 0, INDEX}, {0, MOST, 1, INDEX},
            {1, 1, MOST, INDEX}, {0, 0, MOST, INDEX}, {LEAST, 0, 0, INDEX}, {0, LEAST, 0, INDEX}, {LEAST, LEAST, LEAST, INDEX},
            {LEAST, 0, MOST, INDEX}, {MOST, MOST, 2, INDEX}, {5, 0, -1, INDEX}, {3, 0, -1, INDEX}};
        for (int[] c : calls) {
            is(x.copy(0, c[0], 1, c[1], c[2]), c[3]);
        }
        same("SHEET 1", x.itemsOf(1, 2, 2), "11 12");
        is(x.copy(0, 3, 1, 1, 1), 1);
        same("SHEET 1", x.itemsOf(1, 2, 2), "11 4");
        is(x.copy(0, 2, 1, 0, 2), 2);
        same("SHEET 1", x.itemsOf(1, 2, 2), "3 4");
        // the same one: its own bound for both
        is(x.copy(0, 0, 0, 4, 0), 0);
        is(x.copy(0, 0, 0, 5, 0), INDEX);
        is(x.copy(0, 0, 0, 1, 4), INDEX);
        is(x.copy(0, 1, 0, 0, 4), INDEX);
        same("SHEET 0", x.itemsOf(0, 2, 4), "1 2 3 4");
        x.sheet(2, 2, 0);
        is(x.copy(2, 0, 2, 0, 0), 0);
        is(x.copy(2, 1, 2, 0, 0), INDEX);
        is(x.copy(2, 0, 0, 0, 1), INDEX);
        x.sheet(2, 2, 28);
        is(x.copy(2, 28, 0, 4, 0), 0);
        is(x.copy(2, 29, 0, 4, 0), INDEX);
        is(x.copy(2, 28, 0, 3, 1), INDEX);
        is(x.copy(2, 27, 0, 3, 1), 1);
    }
}
