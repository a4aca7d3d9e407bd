import java.io.IOException;

/** Each sentence of the document has a test of its own, which quotes it. */
public final class SentencesTest {
    public static void main(String[] args) throws IOException {
        TermsSentences.test();
        ListsSentences.test();
        MailsSentences.test();
        StatesSentences.test();
        PersonsSentences.test();
        DaysSentences.test();
        Sentences.compareWithDocument();
        Check.end();
    }
}
