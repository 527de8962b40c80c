import java.io.IOException;
import java.nio.file.Path;

/** Every sentence of the promises 1 to 29, and of the terms that they use: at the edges that it names, and beyond them. */
public final class SentencesTest {
    public static void main(String[] args) throws IOException {
        Sentences doc = new Sentences(Path.of(System.getProperty("causeway.document", "../shared/DOC.md")));
        new WaySentences(doc).tell();
        new TextSentences(doc).tell();
        new WalkSentences(doc).tell();
        new BestSentences(doc).tell();
        new ToldSentences(doc).tell();
        new HostSentences(doc).tell();
        doc.end(29);
    }
}
