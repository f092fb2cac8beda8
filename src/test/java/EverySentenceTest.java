import java.io.IOException;
import java.nio.file.Files;
import java.nio.file.Path;
import java.util.ArrayList;
import java.util.List;
import java.util.regex.Matcher;
import java.util.regex.Pattern;
import java.util.stream.Stream;

/** No sentence of "Terms" and of the promises may be without a test that names it by due.sentence("..."). */
public final class EverySentenceTest {
    private static final Due due = new Due();
    private static final Path TESTS = Path.of("src/test/java");
    private static final Pattern NAMED = Pattern.compile("due\\.sentence\\(\\s*((?:\"[^\"]*\"[\\s+]*)+)\\)");
    private static final Pattern PIECE = Pattern.compile("\"([^\"]*)\"");
    /** Headings, the face, and what the sections are called: they say nothing that a call could break. */
    private static final Pattern NO_SENTENCE = Pattern.compile("(?m)^## .*$|^```text$|^```$|======== \\d|^`[^`\\n]*`:"
        + "|^Ahead of the calls .*$");

    public static void main(String[] args) throws IOException {
        String doc = Doc.text();
        if (doc.isEmpty()) {
            System.out.println("the document is not at hand");
            return;
        }
        int from = doc.indexOf("## Terms");
        int to = doc.indexOf("## Not promised");
        due.isTrue("the document has its Terms and promises", from >= 0 && to > from);
        if (from >= 0 && to > from) {
            everySentence(doc.substring(from, to));
        }
        due.end();
    }

    private static List<String> named() throws IOException {
        List<String> all = new ArrayList<>();
        try (Stream<Path> files = Files.list(TESTS)) {
            for (Path file : files.sorted().toList()) {
                Matcher m = NAMED.matcher(Files.readString(file));
                while (m.find()) {
                    Matcher piece = PIECE.matcher(m.group(1));
                    StringBuilder words = new StringBuilder();
                    while (piece.find()) {
                        words.append(piece.group(1));
                    }
                    all.add(words.toString());
                }
            }
        }
        return all;
    }

    private static void everySentence(String text) throws IOException {
        StringBuilder left = new StringBuilder(text);
        blank(left, NO_SENTENCE.matcher(text));
        List<String> named = named();
        due.isTrue("tests name sentences", named.size() > 100);
        for (String words : named) {
            blank(left, Pattern.compile(Pattern.quote(words)).matcher(text));
        }
        for (String line : left.toString().split("\n")) {
            Matcher m = Pattern.compile("[A-Za-z0-9][^\u0001]*").matcher(line);
            while (m.find()) {
                due.isTrue("a test names: " + m.group(), false);
            }
        }
    }

    private static void blank(StringBuilder text, Matcher m) {
        while (m.find()) {
            for (int i = m.start(); i < m.end(); i++) {
                if (text.charAt(i) != '\n') {
                    text.setCharAt(i, '\u0001');
                }
            }
        }
    }
}
