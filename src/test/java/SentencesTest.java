import java.io.IOException;

/** A test for each sentence of the document, from its first line to its last promise; run from the project's folder. */
public final class SentencesTest {

    public static void main(String[] args) throws IOException {
        Sentences doc = new Sentences();
        new FirstSentences(doc).tell();
        new ThingsSentences(doc).tell();
        new TakingSentences(doc).tell();
        new TextSentences(doc).tell();
        new CallsSentences(doc).tell();
        new MindSentences(doc).tell();
        new ImageSentences(doc).tell();
        new ShelvesSentences(doc).tell();
        doc.end();
    }
}
