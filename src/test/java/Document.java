import java.io.IOException;
import java.nio.file.Files;
import java.nio.file.Path;

/** The document's text, so that a test can name the sentence that it is for, and fails if there is no such sentence. */
final class Document {
    static final int PROMISES = 31;
    private static final String HEADING = "## Promise ";

    private final String text;

    Document(String root) throws IOException {
        text = Files.readString(Path.of(root, "../shared/DOC.md"));
    }

    /** Whether the part says so: 1 to 31 for a promise, 0 for all that stands ahead of them. */
    boolean says(int part, String sentence) {
        int from = part == 0 ? 0 : text.indexOf(HEADING + part + ":");
        if (from < 0) {
            return false;
        }
        int to = text.indexOf("\n## ", part == 0 ? text.indexOf("\n" + HEADING + 1 + ":") : from + 1);
        return text.substring(from, to < 0 ? text.length() : to).contains(sentence);
    }
}
