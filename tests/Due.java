/** Compares answers with those that are due, and ends the program with 1 if one is not. */
final class Due {
    private int right = 0;
    private int wrong = 0;

    void is(String call, long got, long want) {
        if (got == want) {
            right++;
            return;
        }
        wrong++;
        if (wrong <= 50) {
            System.out.println(call + " answered " + got + ", due is " + want);
        }
    }

    boolean isAllRight() {
        return wrong == 0;
    }

    void end() {
        System.out.println(right + " passed, " + wrong + " failed");
        if (wrong != 0) {
            System.exit(1);
        }
    }

    /** Types a text on THE TAPE, eight bytes a call. */
    static void type(NineLies x, String text) {
        for (int from = 0; from < text.length(); from += 8) {
            String part = text.substring(from, Math.min(from + 8, text.length()));
            x.type(packed(part), part.length());
        }
    }

    static long packed(String text) {
        long w = 0;
        for (int i = 0; i < text.length(); i++) {
            w = w << 8 | text.charAt(i);
        }
        return w;
    }

    /** A new object with the YEAR that a text tells. */
    static NineLies year(String text) {
        NineLies x = new NineLies();
        type(x, text);
        x.year();
        return x;
    }

    /** The set of these DAYS. */
    static int days(int... days) {
        int set = 0;
        for (int d : days) {
            set |= 1 << d;
        }
        return set;
    }

    static String repeat(String text, int times, String between) {
        StringBuilder all = new StringBuilder();
        for (int i = 0; i < times; i++) {
            all.append(i == 0 ? "" : between).append(text);
        }
        return all.toString();
    }
}
