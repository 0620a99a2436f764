import java.io.IOException;
import java.nio.file.Files;
import java.nio.file.Path;
import java.util.ArrayList;
import java.util.List;

/** The project's document, so that a test tells the sentence it holds to in words that truly stand there. */
final class Document {
    private static final Path PLACE = Path.of("..", "shared", "DOC.md");
    private static final List<String> LINES = read();
    private static final String TEXT = spaced(String.join(" ", LINES));

    private Document() {
    }

    private static List<String> read() {
        try {
            return Files.readAllLines(PLACE);
        } catch (IOException e) {
            System.out.println("no " + PLACE + " here: the words that tests tell of it are not looked up");
            return new ArrayList<>();
        }
    }

    static String spaced(String text) {
        return text.replaceAll("\\s+", " ");
    }

    static boolean isHere() {
        return !LINES.isEmpty();
    }

    static List<String> lines() {
        return LINES;
    }

    static boolean says(String words) {
        return !isHere() || TEXT.contains(spaced(words));
    }
}
