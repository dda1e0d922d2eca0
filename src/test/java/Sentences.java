import java.util.function.Consumer;

/**
 * Answers that are due by one sentence of the document at a time. Each sentence is quoted, so that a
 * failure tells which one does not hold, and so that it can be seen which ones have no test.
 */
final class Sentences {
    private final Document document;
    private final Check check = new Check();
    private String now = "";
    private int askedBefore = -1;

    Sentences(Document document) {
        this.document = document;
    }

    /** What follows is due by these words under this heading. */
    void sentence(String heading, String words) {
        endSentence();
        now = heading + ", '" + words + "'";
        check.isTrue(now + " stands in the document", document.quote(heading, words));
        askedBefore = check.asked();
    }

    private void endSentence() {
        check.isTrue(now + " has a test", check.asked() > askedBefore);
    }

    /** Words that make nothing due by themselves. */
    void onlySaid(String heading, String words) {
        check.isTrue(heading + ", '" + words + "' stands in the document", document.quote(heading, words));
    }

    void due(String call, long got, long want) {
        check.due(now + ": " + call, got, want);
    }

    void isTrue(String what, boolean holds) {
        check.isTrue(now + ": " + what, holds);
    }

    /** A part of the tests; where the class throws, the rest of the part is left out. */
    void part(Consumer<Sentences> tests) {
        try {
            tests.accept(this);
        } catch (RuntimeException thrown) {
            thrown.printStackTrace();
            check.isTrue(now + ": threw " + thrown, false);
        }
    }

    void allAreQuoted(String heading) {
        String left = document.notQuoted(heading);
        check.isTrue(heading + ": no test is for '" + left + "'", left.isEmpty());
    }

    void end() {
        endSentence();
        check.end();
    }
}
