import java.io.IOException;
import java.nio.file.Path;

/**
 * Each sentence of the terms and of promises 1 to 42, with the boundary cases that it names, by a test of its own;
 * a sentence of the document that has no test fails, too.
 */
public final class SentencesTest {
    public static void main(String[] args) throws IOException {
        Sentences t = new Sentences(Path.of("../shared/DOC.md"));
        new LandSentences(t).all();
        new TextSentences(t).all();
        new SetSentences(t).all();
        new RowSentences(t).all();
        new KeeperSentences(t).all();
        new RestSentences(t).all();
        int wrong = t.end();
        System.out.println(wrong == 0 ? "all sentences hold" : wrong + " answers or sentences are not as due");
        if (wrong != 0) {
            System.exit(1);
        }
    }
}
