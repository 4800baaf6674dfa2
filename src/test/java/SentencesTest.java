/** A test for each sentence of the document, and a look whether none is left out. */
public final class SentencesTest {
    public static void main(String[] args) {
        TermSentences.all();
        TextSentences.all();
        PhraseSentences.all();
        WordSentences.all();
        OrderSentences.all();
        PartSentences.all();
        PlaceSentences.all();
        Document.compare();
        Check.end();
    }
}
