import java.io.IOException;

/** Each sentence of the terms and the promises, with the calls that reach its bounds, on both sides. */
public final class SentencesTest {
    public static void main(String[] args) throws IOException {
        Sentences.open();
        TermsSentences.all();
        DaysSentences.all();
        HarmSentences.all();
        WordsSentences.all();
        SheetsSentences.all();
        Sentences.end();
    }
}
