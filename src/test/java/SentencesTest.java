/** Each sentence of the document, by a test of its own; and that there is no sentence without one. */
public final class SentencesTest {
    public static void main(String[] args) throws java.io.IOException {
        Checks.readDocument();
        ToldSentences.all();
        DoneSentences.all();
        ForetoldSentences.all();
        ShelfSentences.all();
        Checks.endDocument();
        Checks.end("SentencesTest");
    }
}
