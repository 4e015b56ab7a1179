/**
 * A test for each sentence of the document that names a boundary: the last argument that is allowed and the first that
 * is not, empty and full, what wraps round, and each refused call. That no sentence is left out is compared with
 * ../shared/DOC.md; run from the root of the project.
 */
public final class SentencesTest {
    private SentencesTest() {
    }

    public static void main(String[] args) {
        TermsSentences.check();
        KeepingSentences.check();
        SlotSentences.check();
        NumberSentences.check();
        EachNumberSentences.check();
        RefusedSentences.check();
        WritingSentences.check();
        AskingSentences.check();
        CuttingSentences.check();
        FollowingSentences.check();
        WordsSentences.check();
        FiguresSentences.check();
        Sentence.compareWithDocument();
        Check.end("SentencesTest");
    }
}
