import java.io.IOException;
import java.io.UncheckedIOException;
import java.nio.charset.StandardCharsets;
import java.nio.file.Files;
import java.nio.file.Path;

/** The document, so that a test can be named by the sentence that it holds the class to. */
final class Doc {
    private static String text = "";

    private Doc() {
    }

    static String text() {
        if (text.isEmpty()) {
            try {
                text = plain(Files.readString(Path.of("../shared/DOC.md"), StandardCharsets.UTF_8));
            } catch (IOException e) {
                throw new UncheckedIOException(e);
            }
        }
        return text;
    }

    static String plain(String s) {
        return s.replaceAll("\\s+", " ");
    }

    /** A sentence that is not (or no more) in the document can't be what a test holds the class to. */
    static void says(String sentence) {
        Check.due("the document says: " + sentence, text().contains(plain(sentence)), true);
    }
}
