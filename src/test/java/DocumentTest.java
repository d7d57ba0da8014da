import java.io.IOException;
import java.nio.file.Files;
import java.nio.file.Path;
import java.util.ArrayList;
import java.util.List;
import java.util.regex.Matcher;
import java.util.regex.Pattern;
import java.util.stream.Stream;

/** Each sentence of the document's terms and promises is quoted, in its own words, by some test that is about it. */
public final class DocumentTest {
    private static final String TEXT = "\"((?:[^\"\\\\]|\\\\.)*)\"";
    private static final Pattern QUOTE = Pattern.compile("Run\\.about\\((\\s*" + TEXT + "(?:\\s*\\+\\s*" + TEXT + ")*\\s*)\\)");

    public static void main(String[] args) throws IOException {
        String document = sentences();
        boolean[] quoted = new boolean[document.length()];
        List<String> quotes = quotes();
        Run.isTrue("tests quote the document", quotes.size() > 200);
        for (String quote : quotes) {
            Run.isTrue("a quote is more than a word: " + quote, quote.contains(" "));
            mark(quoted, document, quote);
        }
        StringBuilder unquoted = new StringBuilder();
        for (int i = 0; i < quoted.length; i++) {
            unquoted.append(quoted[i] ? '\n' : document.charAt(i));
        }
        for (String rest : unquoted.toString().split("\n+")) {
            Run.isTrue("some test quotes: " + rest, !rest.matches(".*[A-Za-z0-9].*"));
        }
        Run.end("DocumentTest");
    }

    /** The terms and the promises; headings are no sentences. */
    private static String sentences() {
        String text = Document.between("## Terms", "## Not promised");
        return Document.wordsOf(text.replaceAll("(?m)^## .*$", "").replaceAll("(?m)^```.*$", "").replaceAll("==== [0-9]\\.", ""));
    }

    private static List<String> quotes() throws IOException {
        List<String> quotes = new ArrayList<>();
        try (Stream<Path> files = Files.list(Path.of("src/test/java"))) {
            for (Path file : files.sorted().toList()) {
                Matcher quote = QUOTE.matcher(Document.read(file));
                while (quote.find()) {
                    quotes.add(Document.wordsOf(joined(quote.group(1))));
                }
            }
        }
        return quotes;
    }

    private static String joined(String texts) {
        StringBuilder all = new StringBuilder();
        Matcher text = Pattern.compile(TEXT).matcher(texts);
        while (text.find()) {
            all.append(text.group(1));
        }
        return all.toString().replace("\\\"", "\"").replace("\\\\", "\\");
    }

    // Signatures are FaceTest's, so they count as quoted.
    private static void mark(boolean[] quoted, String document, String quote) {
        for (int at = document.indexOf(quote); at >= 0; at = document.indexOf(quote, at + 1)) {
            java.util.Arrays.fill(quoted, at, at + quote.length(), true);
        }
        Matcher signature = Pattern.compile("`[^`]*\\([^`]*`:").matcher(document);
        while (signature.find()) {
            java.util.Arrays.fill(quoted, signature.start(), signature.end(), true);
        }
    }
}
