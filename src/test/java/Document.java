import java.io.IOException;
import java.io.UncheckedIOException;
import java.nio.charset.StandardCharsets;
import java.nio.file.Files;
import java.nio.file.Path;
import java.util.ArrayList;
import java.util.Arrays;
import java.util.List;
import java.util.regex.Matcher;
import java.util.regex.Pattern;

/** The document itself, for the tests that hold the class and the words of other tests against it. */
final class Document {
    /** A heading of the interface, and the calls ahead of which it stands. */
    record Part(String heading, List<String> calls) { }

    private Document() { }

    static String read(String place) {
        try {
            return Files.readString(Path.of(place), StandardCharsets.UTF_8);
        } catch (IOException e) {
            throw new UncheckedIOException(place + " is not there", e);
        }
    }

    static String text() {
        return read("../shared/DOC.md");
    }

    /** The part of the text that tells the public face. */
    static String faceText() {
        return between(text(), "```java\n", "```");
    }

    private static String between(String text, String begin, String end) {
        int from = text.indexOf(begin) + begin.length();
        return text.substring(from, text.indexOf(end, from));
    }

    /** The methods of the face, each as: int ofPass(int,int). */
    static List<String> methods() {
        List<String> all = new ArrayList<>();
        Matcher m = Pattern.compile("public (int|long) (\\w+)\\((.*?)\\);").matcher(faceText());
        while (m.find()) {
            List<String> types = new ArrayList<>();
            for (String one : m.group(3).isEmpty() ? new String[0] : m.group(3).split(", ")) {
                types.add(one.replaceFirst(" .*", ""));
            }
            all.add(m.group(1) + " " + m.group(2) + "(" + String.join(",", types) + ")");
        }
        return all;
    }

    /** The constants of the face, each as: int UNKNOWN -1. */
    static List<String> constants() {
        List<String> all = new ArrayList<>();
        Matcher m = Pattern.compile("public static final (int|long) (.*?);").matcher(faceText());
        while (m.find()) {
            for (String one : m.group(2).split(", ")) {
                String value = one.replaceFirst(".* = ", "");
                all.add(m.group(1) + " " + one.replaceFirst(" = .*", "") + " "
                    + (value.equals("Long.MIN_VALUE") ? "" + Long.MIN_VALUE : value));
            }
        }
        return all;
    }

    static List<Part> parts() {
        List<Part> all = new ArrayList<>();
        Matcher m = Pattern.compile("Ahead of the calls (.*) the interface says: (.*)\\.").matcher(text());
        while (m.find()) {
            all.add(new Part(m.group(2), Arrays.asList(m.group(1).replace("`", "").split(", "))));
        }
        return all;
    }
}
