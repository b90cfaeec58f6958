import java.io.IOException;

/**
 * Each sentence of the document's Terms and promises, with a test of its own that fails if that sentence is
 * broken. The tests name the words that they stand for, and no words of the document go unnamed.
 */
public final class SentenceTest {
    public static void main(String[] args) throws IOException {
        Doc.open();
        PlanSentences.all();
        SqueezerSentences.all();
        LetterSentences.all();
        OpenerSentences.all();
        DeliverySentences.all();
        ShelfSentences.all();
        RefusalSentences.all();
        Doc.dueAllNamed();
        Due.finish();
    }
}
