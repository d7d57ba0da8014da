import java.io.IOException;
import java.io.UncheckedIOException;
import java.nio.file.Files;
import java.nio.file.Path;
import java.util.List;

/** The document, as tests read it. */
final class Document {
    private static final String TEXT = read(Path.of("../shared/DOC.md"));
    private static final String WORDS = wordsOf(TEXT);

    private Document() {
    }

    static String read(Path file) {
        try {
            return Files.readString(file);
        } catch (IOException e) {
            throw new UncheckedIOException(e);
        }
    }

    /** A text with single blanks alone between its words. */
    static String wordsOf(String text) {
        return text.replaceAll("\\s+", " ");
    }

    static String words() {
        return WORDS;
    }

    static String between(String from, String to) {
        return TEXT.substring(TEXT.indexOf(from), TEXT.indexOf(to));
    }

    /** The declarations of the public face, a line each, as they stand there. */
    static List<String> face() {
        return between("## The public face", "## Terms").lines().map(String::strip)
                .filter(line -> line.startsWith("public ") && line.endsWith(";")).toList();
    }

    /** Those of them that are methods. */
    static List<String> methods() {
        return face().stream().filter(line -> line.matches("public \\w+ \\w+\\(.*")).toList();
    }
}
