import java.io.IOException;
import java.util.List;
import java.util.function.IntSupplier;

/** What the tests by sentence share: which sentence is tested now, and whether answers are as it says. */
abstract class Sentences {
    static final int BAD = -1, NOT = -2, FULL = -3, NONE = -4, NULL = -11, CAST = -12, INDEX = -13, SIZE = -14;
    static final int LESS = 100000000;
    static final int LEAST = Integer.MIN_VALUE, MOST = Integer.MAX_VALUE;
    static final int ALL_DAYS = (1 << 28) - 1;
    /** Numbers that fit nowhere: some would, if only their lowest bits were looked at. */
    static final int[] WILD = {-1, -256, 1 << 16, 1 << 24, LEAST, LEAST + 1, MOST};

    private static Document document = null;
    private static String sentence = "";
    private static int sentences = 0;
    private static int compared = 0;
    private static int comparedBefore = 0;
    private static int wrong = 0;

    static void open() throws IOException {
        document = new Document();
    }

    /** The answers behind it, up to the next one, are told by this sentence of this part of the document. */
    static void about(String part, String words) {
        closeSentence();
        sentence = part + ", \"" + words + "\"";
        sentences++;
        if (!document.quotes(part, words)) {
            tellWrong("is not in the document");
        }
    }

    private static void closeSentence() {
        if (sentences > 0 && compared - comparedBefore < 2) {
            tellWrong("has no test on both of its sides");
        }
        comparedBefore = compared;
    }

    private static void tellWrong(String what) {
        wrong++;
        if (wrong <= 60) {
            System.out.println(sentence + ": " + what);
        }
    }

    static void is(int got, int due) {
        compared++;
        if (got != due) {
            tellWrong(Court.lastCall() + " answered " + got + ", due is " + due);
        }
    }

    static void same(String what, String got, String due) {
        compared++;
        if (!got.equals(due)) {
            tellWrong(what + " is " + got + ", due is " + due);
        }
    }

    /** A call that is refused so, and behind which all that shows of the YEAR is as it was. */
    static void refused(Court x, IntSupplier call, int due) {
        String before = x.state();
        is(call.getAsInt(), due);
        String refusedCall = Court.lastCall();
        same("the state behind " + refusedCall, x.state(), before);
    }

    /** How many bytes THE TAPE has, told by one blank more. */
    static void tapeHas(Court x, int due) {
        is(x.type(" "), due + 1);
    }

    static int days(int... days) {
        return Due.days(days);
    }

    /** The DAYS from one to another one, both too. */
    static int span(int from, int to) {
        int set = 0;
        for (int d = from; d <= to; d++) {
            set |= 1 << d;
        }
        return set;
    }

    static String times(int many, String day) {
        return Due.repeat(day, many, ",");
    }

    /** The constructor and the methods that the document declares. */
    static List<String> declared() {
        return document.face();
    }

    static void end() {
        closeSentence();
        for (String rest : document.unquoted()) {
            wrong++;
            System.out.println("no test quotes " + rest);
        }
        if (document.promises() != 33) {
            wrong++;
            System.out.println("promises read: " + document.promises());
        }
        System.out.println(sentences + " sentences, " + compared + " compared, " + wrong + " wrong");
        if (wrong != 0 || compared == 0) {
            System.exit(1);
        }
    }
}
