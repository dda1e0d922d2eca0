import java.io.IOException;
import java.nio.file.Path;

/**
 * The document, sentence by sentence: each one that names a boundary case is quoted and has answers
 * that are due by it. .ci/run starts it in the project's folder.
 */
final class SentencesTest {
    private static final int PROMISES = 22;

    public static void main(String[] args) throws IOException {
        Sentences s = new Sentences(new Document(Path.of("../shared/DOC.md")));
        s.part(BoxSentences::all);
        s.part(SearchSentences::all);
        s.part(LaidSentences::all);
        s.part(TreeSentences::all);
        s.part(DualSentences::all);
        s.part(NoneSentences::all);
        s.part(RefusalSentences::all);
        s.allAreQuoted("Terms");
        for (int promise = 1; promise <= PROMISES; promise++) {
            s.allAreQuoted("Promise " + promise);
        }
        s.end();
    }
}
