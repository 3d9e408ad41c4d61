import java.io.IOException;

/** All that the document promises, sentence by sentence, in its order. */
public final class SentencesTest {
    public static void main(String[] args) throws IOException {
        Book book = new Book("../shared/DOC.md");
        book.openAt("## Terms BUILDING.");
        BuildingSentences.read(book);
        WordSentences.read(book);
        LookSentences.read(book);
        InstantSentences.read(book);
        StepSentences.read(book);
        RefusalSentences.read(book);
        BuildPromises.read(book);
        RunPromises.read(book);
        AskPromises.read(book);
        book.closeAt("## Not promised");
        Checks.end();
    }
}
