import java.io.IOException;
import java.nio.file.Files;
import java.nio.file.Path;

/** The project's document, so that a test tells the sentence it holds to in words that truly stand there. */
final class Document {
    private static final Path PLACE = Path.of("..", "shared", "DOC.md");
    private static final String TEXT = read();

    private Document() {
    }

    private static String read() {
        try {
            return spaced(Files.readString(PLACE));
        } catch (IOException e) {
            System.out.println("no " + PLACE + " here: the words that tests tell of it are not looked up");
            return null;
        }
    }

    private static String spaced(String text) {
        return text.replaceAll("\\s+", " ");
    }

    static boolean says(String words) {
        return TEXT == null || TEXT.contains(spaced(words));
    }
}
