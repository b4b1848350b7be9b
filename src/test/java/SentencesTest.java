/** Every sentence of the document, with a test of its own. */
public final class SentencesTest {
    public static void main(String[] args) {
        Sentences doc = new Sentences();
        TermsSentences.tell(doc);
        TroopSentences.tell(doc);
        SeasonSentences.tell(doc);
        LeaderSentences.tell(doc);
        BadgeSentences.tell(doc);
        EventSentences.tell(doc);
        BoxSentences.tell(doc);
        AskingSentences.tell(doc);
        doc.eachIsMet();
        Check.finish("SentencesTest");
    }
}
