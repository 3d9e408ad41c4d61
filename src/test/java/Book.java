import java.io.IOException;
import java.nio.file.Files;
import java.nio.file.Path;

/**
 * The document, read from front to back: each sentence is quoted beside the test that holds the class
 * to it, and nothing but stops and brackets may stand between one quote and the next.
 */
final class Book {
    private final String text;
    private int at;
    private int count;

    Book(String file) throws IOException {
        text = Files.readString(Path.of(file)).replace("```text", "").replaceAll("\\s+", " ");
    }

    /** Goes on behind that place; what stands before it makes no promise. */
    void openAt(String place) {
        at = behind(place, 0);
    }

    /** A promise's heading and its method's form, of which FaceTest knows. */
    void promise(String heading) {
        nothingIsLeftOutBefore("## Promise " + heading + " `");
        at = behind("`:", behind("## Promise " + heading + " `", at));
    }

    void sentence(String quote, Runnable test) {
        nothingIsLeftOutBefore(quote);
        at = behind(quote, at);
        count++;
        Checks.tellWith(quote);
        try {
            test.run();
        } catch (RuntimeException e) {
            Checks.isWrong("a call throws " + e);
        }
        Checks.tellWith("");
    }

    void closeAt(String place) {
        nothingIsLeftOutBefore(place);
        System.out.println(count + " sentences were tested");
    }

    private int behind(String quote, int from) {
        int found = text.indexOf(quote, from);
        if (found < 0) {
            Checks.isWrong("the document does not say (any more, or here): " + quote);
            return from;
        }
        return found + quote.length();
    }

    private void nothingIsLeftOutBefore(String quote) {
        int found = text.indexOf(quote, at);
        String between = found < 0 ? "" : text.substring(at, found);
        if (!between.replaceAll("[ .,;:()`]", "").isEmpty()) {
            Checks.isWrong("no test quotes: " + between);
        }
    }
}
