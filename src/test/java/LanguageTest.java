import java.io.IOException;
import java.lang.reflect.Constructor;
import java.lang.reflect.Executable;
import java.lang.reflect.Field;
import java.lang.reflect.Method;
import java.lang.reflect.Modifier;
import java.nio.charset.StandardCharsets;
import java.nio.file.Files;
import java.nio.file.Path;
import java.util.ArrayList;
import java.util.Arrays;
import java.util.List;
import java.util.Set;
import java.util.TreeSet;
import java.util.regex.Matcher;
import java.util.regex.Pattern;

/** The document's face and the rules of LANGUAGE.md, as far as they can be read off the class and its text. */
public final class LanguageTest {
    private static final Path SOURCE = Path.of("src/main/java/WavePass.java");
    private static final Set<String> FACE = new TreeSet<>(Document.methods());

    private LanguageTest() { }

    public static void main(String[] args) throws IOException, IllegalAccessException {
        face();
        constants();
        members();
        text();
        Due.end();
    }

    private static void rule(String what, boolean holds) {
        Due.due(what, holds ? 1 : 0, 1);
    }

    private static void face() {
        rule("the class is public and final", Modifier.isPublic(WavePass.class.getModifiers())
            && Modifier.isFinal(WavePass.class.getModifiers()));
        Constructor<?>[] makers = WavePass.class.getDeclaredConstructors();
        rule("one public constructor without parameters", makers.length == 1 && makers[0].getParameterCount() == 0
            && Modifier.isPublic(makers[0].getModifiers()));
        Set<String> seen = new TreeSet<>();
        for (Method m : WavePass.class.getDeclaredMethods()) {
            if (!Modifier.isPrivate(m.getModifiers())) {
                rule(m.getName() + " is public, and not static", Modifier.isPublic(m.getModifiers())
                    && !Modifier.isStatic(m.getModifiers()));
                List<String> types = new ArrayList<>();
                for (Class<?> type : m.getParameterTypes()) {
                    types.add(type.getName());
                }
                seen.add(m.getReturnType() + " " + m.getName() + "(" + String.join(",", types) + ")");
            }
        }
        Due.due("methods that the document's face tells", FACE.size(), 31);
        rule("the methods are those of the face, not " + seen, seen.equals(FACE));
    }

    private static void constants() throws IllegalAccessException {
        Set<String> seen = new TreeSet<>();
        for (Field f : WavePass.class.getDeclaredFields()) {
            if (!Modifier.isPrivate(f.getModifiers())) {
                rule(f.getName() + " is public static final", Modifier.toString(f.getModifiers())
                    .equals("public static final"));
                seen.add(f.getType() + " " + f.getName() + " " + f.get(null));
            }
        }
        Due.due("constants that the document's face tells", Document.constants().size(), 6);
        rule("the constants are those of the face, not " + seen, seen.equals(new TreeSet<>(Document.constants())));
    }

    private static void members() {
        Class<?>[] inside = WavePass.class.getDeclaredClasses();
        rule("at most twelve classes", inside.length < 12);
        rule("no class without a name", Arrays.stream(inside).noneMatch(one -> one.isAnonymousClass()
            || one.isLocalClass() || one.getSimpleName().isEmpty()) && !isClass("WavePass$1"));
        List<Class<?>> all = new ArrayList<>(Arrays.asList(inside));
        all.add(WavePass.class);
        for (Class<?> one : all) {
            if (one != WavePass.class) {
                rule(one + " is static", Modifier.isStatic(one.getModifiers()));
                rule(one + " is not public or protected",
                    !Modifier.isPublic(one.getModifiers()) && !Modifier.isProtected(one.getModifiers()));
            }
            membersOf(one);
        }
    }

    private static boolean isClass(String name) {
        return WavePass.class.getResource(name + ".class") != null;
    }

    private static void membersOf(Class<?> one) {
        Set<String> faceNames = new TreeSet<>();
        for (String s : FACE) {
            faceNames.add(s.substring(s.indexOf(' ') + 1, s.indexOf('(')));
        }
        int fields = 0;
        for (Field f : one.getDeclaredFields()) {
            if (Modifier.isStatic(f.getModifiers())) {
                rule(f + " is a final constant", Modifier.isFinal(f.getModifiers())
                    && (f.getType() == int.class || f.getType() == long.class));
            } else {
                fields++;
            }
        }
        rule(one + " has at most twenty fields", fields <= 20);
        for (Method m : one.getDeclaredMethods()) {
            parametersOf(m);
            rule(m + " does not bear the name of a public one",
                Modifier.isPublic(m.getModifiers()) || !faceNames.contains(m.getName()));
        }
        for (Constructor<?> c : one.getDeclaredConstructors()) {
            parametersOf(c);
        }
    }

    private static void parametersOf(Executable e) {
        rule(e + " has at most seven parameters", e.getParameterCount() <= 7);
    }

    private static void text() throws IOException {
        byte[] bytes = Files.readAllBytes(SOURCE);
        for (byte b : bytes) {
            if (b < 1) {
                rule("signs are 1 to 127", false);
            }
        }
        String code = withoutComments(new String(bytes, StandardCharsets.US_ASCII));
        String[] words = {"throw", "throws", "try", "catch", "finally", "synchronized", "assert", "package", "protected",
            "volatile", "transient", "native", "while", "do", "instanceof", "String", "float", "double", "equals", "hashCode", "toString", "Object", "Random", "Thread", "Exception"};
        for (String word : words) {
            rule("no '" + word + "'", !Pattern.compile("\\b" + word + "\\b").matcher(code).find());
        }
        for (String sign : new String[] {"->", "::", "static {", "Exact(", "while (true)", "for (;;)", "new Object"}) {
            rule("no '" + sign + "'", !code.contains(sign));
        }
        Matcher imports = Pattern.compile("import ([^;]*);").matcher(code);
        while (imports.find()) {
            rule("import of " + imports.group(1), imports.group(1).equals("java.util.Arrays"));
        }
        library(code);
        lengths(code);
        loops(code);
        Shape shape = new Shape(code);
        depths(shape);
        makes(shape, code);
        headings(new String(bytes, StandardCharsets.US_ASCII));
    }

    private static String withoutComments(String text) {
        return text.replaceAll("(?s)/\\*.*?\\*/", "").replaceAll("//[^\n]*", "");
    }

    private static void library(String code) {
        Set<String> fine = new TreeSet<>(Arrays.asList("Arrays.fill", "Integer.bitCount", "Math.abs",
            "Math.max", "Math.min", "System.arraycopy", "Coast.firstWrongCode"));
        Matcher calls = Pattern.compile("\\b[A-Z][A-Za-z]*\\.[a-z][A-Za-z]*").matcher(code);
        while (calls.find()) {
            rule("the library has " + calls.group(), fine.contains(calls.group()));
        }
    }

    private static void lengths(String code) {
        for (Shape.Method one : new Shape(code).methods) {
            rule(one.name() + " is short", one.lines() <= 60);
        }
    }

    /** Every loop counts against a bound that its own line tells. */
    private static void loops(String code) {
        Matcher all = Pattern.compile("\\bfor \\((.*)\\) \\{").matcher(code);
        int found = 0;
        while (all.find()) {
            found++;
            rule("for (" + all.group(1) + ") counts up or down to a bound", all.group(1).matches(
                "int (\\w+) = [^;]+; (\\1 <=? [^;]+; \\1\\+\\+|\\1 >=? [^;]+; \\1--)"));
        }
        Due.due("loops", Pattern.compile("\\bfor\\b").matcher(code).results().count(), found);
    }

    private static void depths(Shape shape) {
        for (Shape.Method one : shape.methods) {
            int depth = shape.depth(one.name(), 0);
            rule(one.name() + " goes at most eight deep and never comes to itself, but is " + depth, depth <= 8);
        }
    }

    /** What a call makes is counted; all that this class needs is made with the object. */
    private static void makes(Shape shape, String code) {
        for (Shape.Method one : shape.methods) {
            rule(one.name() + " makes no object and no array", one.name().equals("WavePass")
                || !Pattern.compile("\\bnew\\b|\\.clone\\(|\\bcopyOf").matcher(one.body()).find());
        }
        rule("no text is made", code.indexOf('"') < 0);
    }

    /** The headings of the interface stand ahead of the calls for which the document tells them. */
    private static void headings(String text) {
        Due.due("headings that the document tells", Document.parts().size(), 5);
        for (Document.Part part : Document.parts()) {
            int from = text.indexOf("// " + part.heading() + "\n");
            rule("the heading " + part.heading(), from >= 0);
            int next = text.indexOf("// ---- ", Math.max(from, 0) + 1);
            List<String> under = new ArrayList<>();
            Matcher m = Pattern.compile("public (?:int|long) (\\w+)\\(").matcher(text.substring(Math.max(from, 0), next));
            while (m.find()) {
                under.add(m.group(1));
            }
            Due.dueSame("calls under " + part.heading(), under.toString(), part.calls().toString());
        }
    }
}
