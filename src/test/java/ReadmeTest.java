import java.io.IOException;
import java.net.URL;
import java.net.URLClassLoader;
import java.nio.file.Files;
import java.nio.file.Path;
import java.util.ArrayList;
import java.util.HashMap;
import java.util.List;
import java.util.Map;
import java.util.regex.MatchResult;
import java.util.regex.Matcher;
import java.util.regex.Pattern;
import java.util.stream.Stream;

/** What README.md says of the class and of the tests is so: its Java is compiled and run. */
public final class ReadmeTest {
    private static final Pattern JAVA = Pattern.compile("(?s)```java\n(.*?)```");
    /** A call that begins a line, and one whose comment begins with what it answers. */
    private static final Pattern CALL = Pattern.compile("(?m)^(?:x|new WavePass\\(\\))\\.\\w+\\(.*\\);");
    private static final Pattern ANSWERED =
        Pattern.compile("(?m)^((?:x|new WavePass\\(\\))\\.\\w+\\(.*\\)); +// (-?\\d+|[A-Z]+)\\b");
    private static final String[] FAULTS = {"NULL", "CAST", "INDEX", "SIZE"};

    private ReadmeTest() { }

    public static void main(String[] args) throws IOException, InterruptedException, ReflectiveOperationException {
        String readme = Document.read("README.md");
        runs(readme);
        calls(readme);
        answers(readme);
        tests(readme);
        Due.end();
    }

    private static void tells(String readme, String what) {
        Due.due("README.md tells " + what, readme.contains(what) ? 1 : 0, 1);
    }

    // ---- its Java

    private static void runs(String readme) throws IOException, InterruptedException, ReflectiveOperationException {
        StringBuilder code = new StringBuilder();
        JAVA.matcher(readme).results().forEach(block -> code.append(block.group(1)));
        List<MatchResult> told = ANSWERED.matcher(code).results().toList();
        Due.due("calls of README.md that tell their answer", told.size(), CALL.matcher(code).results().count());
        Due.due("more than forty calls", told.size() > 40 ? 1 : 0, 1);
        List<?> got = answersOf(code.toString());
        Due.due("answers", got.size(), told.size());
        for (int k = 0; k < Math.min(got.size(), told.size()); k++) {
            Due.due("README.md: " + told.get(k).group(1), (Long) got.get(k), numberOf(told.get(k).group(2)));
        }
    }

    private static long numberOf(String answer) {
        Map<String, Long> named = new HashMap<>();
        for (String constant : Document.constants()) {
            String[] words = constant.split(" ");
            named.put(words[1], Long.valueOf(words[2]));
        }
        return named.containsKey(answer) ? named.get(answer) : Long.parseLong(answer);
    }

    private static List<?> answersOf(String code)
            throws IOException, InterruptedException, ReflectiveOperationException {
        Path place = Files.createTempDirectory("readme");
        Path file = place.resolve("ReadmeRuns.java");
        Files.writeString(file, "public final class ReadmeRuns {\npublic static java.util.List<Long> run() {\n"
            + "java.util.List<Long> got = new java.util.ArrayList<>();\n"
            + ANSWERED.matcher(code).replaceAll("got.add((long) $1); //") + "return got;\n}\n}\n");
        int failed = new ProcessBuilder("javac", "-cp", System.getProperty("java.class.path"), "-d", place.toString(),
            file.toString()).inheritIO().start().waitFor();
        Due.due("javac of the Java of README.md", failed, 0);
        try (URLClassLoader loader = new URLClassLoader(new URL[] {place.toUri().toURL()})) {
            return failed != 0 ? new ArrayList<>()
                : (List<?>) loader.loadClass("ReadmeRuns").getMethod("run").invoke(null);
        } finally {
            Files.deleteIfExists(place.resolve("ReadmeRuns.class"));
            Files.deleteIfExists(file);
            Files.deleteIfExists(place);
        }
    }

    // ---- its tables

    private static void calls(String readme) {
        Matcher m = Pattern.compile("public (?:int|long) (\\w+)\\((.*?)\\);").matcher(Document.faceText());
        while (m.find()) {
            tells(readme, "| `" + m.group(1) + "(" + m.group(2).replaceAll("(?:int|boolean) ", "") + ")` | ");
        }
    }

    private static void answers(String readme) {
        for (String constant : Document.constants()) {
            String[] words = constant.split(" ");
            tells(readme, words[1].equals("LOST") ? "`LOST` (`Long.MIN_VALUE`)"
                : "| `" + words[1] + "` | " + words[2] + " | ");
        }
        for (int fault = 1; fault <= 4; fault++) {
            tells(readme, "| " + FAULTS[fault - 1] + ", fault " + fault + " | " + (-10 - fault) + " | ");
        }
    }

    private static void tests(String readme) throws IOException {
        try (Stream<Path> files = Files.list(Path.of("src/test/java"))) {
            for (Path file : files.sorted().toList()) {
                tells(readme, "`" + file.getFileName().toString().replace(".java", "") + "`");
            }
        }
        Matcher named = Pattern.compile("`([A-Z]\\w*Test)`").matcher(readme);
        while (named.find()) {
            Path file = Path.of("src/test/java", named.group(1) + ".java");
            Due.due(file + " is there", Files.exists(file) ? 1 : 0, 1);
        }
        tells(readme, ".ci/run");
        Due.due(".ci/run is there", Files.isExecutable(Path.of(".ci/run")) ? 1 : 0, 1);
    }
}
