import java.io.IOException;
import java.nio.file.Files;
import java.nio.file.Path;
import java.util.ArrayList;
import java.util.List;
import java.util.regex.Matcher;
import java.util.regex.Pattern;
import java.util.stream.Stream;

/**
 * The words that the project's tests quote (Due.says) are the document's, and no word of its Terms and promises is
 * left that none of them quotes.
 */
public final class DocumentTest {
    private static final Pattern QUOTE = Pattern.compile("Due\\.says\\(((?:[\\s+]*\"(?:[^\"\\\\]|\\\\.)*\")+)\\)");
    private static final Pattern PIECE = Pattern.compile("\"((?:[^\"\\\\]|\\\\.)*)\"");
    /** What promises nothing: it frames, sums up, or leaves free; the face and its headings are LanguageTest's. */
    private static final String[] FRAMES = {"(?m)^#.*$", "(?s)```java.*?```", "```text", "```", "(?m)^==== [1-5] ",
        "(?m)^Cut along a wave: .*$", "(?m)^`\\w+ ?\\w*\\(.*?\\)`: ", "(?m)^Ahead of the calls .*$",
        "; what later calls answer is free\\.", "(?m)^How the state is held inside the object is free.*$"};

    private DocumentTest() { }

    public static void main(String[] args) throws IOException {
        String text = Document.text();
        List<String> quotes = quotes();
        boolean[] held = new boolean[text.length()];
        for (String quote : quotes) {
            Due.due("the document says \"" + quote + "\"", text.contains(quote) ? 1 : 0, 1);
            mark(held, text, Pattern.compile(Pattern.quote(quote)));
        }
        for (String frame : FRAMES) {
            mark(held, text, Pattern.compile(frame));
        }
        Due.due("quotes", quotes.size() > 100 ? 1 : 0, 1);
        Due.dueSame("what no test quotes", leftOf(text, held), "[]");
        Due.end();
    }

    private static List<String> quotes() throws IOException {
        List<String> all = new ArrayList<>();
        try (Stream<Path> files = Files.list(Path.of("src/test/java"))) {
            for (Path file : files.filter(one -> one.toString().endsWith("Test.java")).sorted().toList()) {
                Matcher quote = QUOTE.matcher(Files.readString(file));
                while (quote.find()) {
                    StringBuilder words = new StringBuilder();
                    Matcher piece = PIECE.matcher(quote.group(1));
                    while (piece.find()) {
                        words.append(piece.group(1));
                    }
                    all.add(words.toString());
                }
            }
        }
        return all;
    }

    private static void mark(boolean[] held, String text, Pattern words) {
        Matcher m = words.matcher(text);
        while (m.find()) {
            for (int i = m.start(); i < m.end(); i++) {
                held[i] = true;
            }
        }
    }

    /** Runs of signs that are not held and have a word or a number among them. */
    private static String leftOf(String text, boolean[] held) {
        List<String> left = new ArrayList<>();
        StringBuilder run = new StringBuilder();
        for (int i = 0; i <= text.length(); i++) {
            if (i < text.length() && !held[i]) {
                run.append(text.charAt(i));
                continue;
            }
            if (run.chars().anyMatch(Character::isLetterOrDigit)) {
                left.add(run.toString().trim());
            }
            run.setLength(0);
        }
        return left.toString();
    }
}
