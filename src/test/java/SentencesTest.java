import java.io.IOException;

/** Promises 1 to 37 and the terms: a test for each sentence of the document, and none without its sentence. */
public final class SentencesTest {
    private SentencesTest() {
    }

    public static void main(String[] args) throws IOException {
        Checks checks = new Checks("SentencesTest");
        Sentences sentences = new Sentences(checks);
        new BoatSentences(sentences, checks).tell();
        new LotSentences(sentences, checks).tell();
        new ClockSentences(sentences, checks).tell();
        new TruckSentences(sentences, checks).tell();
        new SumSentences(sentences, checks).tell();
        new TermSentences(sentences, checks).tell();
        new ExceptionSentences(sentences, checks).tell();
        sentences.allAreTested();
        checks.end();
    }
}
