import java.io.IOException;

/**
 * The document sentence by sentence: each that names a boundary case (too small, too large, empty, full, a
 * wrap-around, a refused call), and each other one, has a test of its own, and no sentence is left without one.
 */
public final class SentencesTest {
    private static final Check CHECK = new Check("SentencesTest");

    public static void main(String[] args) throws IOException {
        Quotes quotes = new Quotes(CHECK);
        new TermsSentences(CHECK, quotes).run();
        new TicksSentences(CHECK, quotes).run();
        new AskedSentences(CHECK, quotes).run();
        new RefusalSentences(CHECK, quotes).run();
        new PromiseSentences(CHECK, quotes).run();
        new AskPromiseSentences(CHECK, quotes).run();
        CHECK.about("all of the document");
        for (String words : quotes.unquoted()) {
            CHECK.holds("'" + words + "' has a test", false);
        }
        CHECK.end();
    }
}
