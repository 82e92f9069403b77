import java.io.IOException;
import java.lang.reflect.Constructor;
import java.lang.reflect.Executable;
import java.lang.reflect.Field;
import java.lang.reflect.Method;
import java.lang.reflect.Modifier;
import java.nio.charset.StandardCharsets;
import java.nio.file.Files;
import java.nio.file.Path;
import java.util.ArrayList;
import java.util.Arrays;
import java.util.List;
import java.util.Set;
import java.util.TreeSet;
import java.util.regex.Matcher;
import java.util.regex.Pattern;

/** The document's face and the rules of LANGUAGE.md, as far as they can be read off the class and its text. */
public final class LanguageTest {
    private static final Path SOURCE = Path.of("src/main/java/WavePass.java");
    private static final String[] FACE = {
        "int coast(int,int,int,int)", "int ofPass(int,int)", "int trim(int,int,int)", "int slack(int)",
        "int worn(int,int,int)", "int off(int,int,int)", "int fits(int,int)", "int match(int,int)", "int last(int)",
        "int alike(int)", "int most()", "int letGo(int,int)", "int fewest(int)",
        "int voyages(int,int,int,int,int,int)", "int reading(int,int,int,boolean)", "int back(int)",
        "int edges(int,int)", "int kinds(int)", "int slacks()", "long odds(int,int,int)", "int sheet(int,int,int)",
        "int lose(int)", "int put(int,int,int)", "long cell(int,int,int)", "int copy(int,int,int,int,int)",
        "int tell(int)", "int seal(int)", "int as(int,int)", "int trace()", "int fault()", "int many(int)"};

    private LanguageTest() { }

    public static void main(String[] args) throws IOException, IllegalAccessException {
        face();
        constants();
        members();
        text();
        Due.end();
    }

    private static void rule(String what, boolean holds) {
        Due.due(what, holds ? 1 : 0, 1);
    }

    private static void face() {
        rule("the class is public and final", Modifier.isPublic(WavePass.class.getModifiers())
            && Modifier.isFinal(WavePass.class.getModifiers()));
        Constructor<?>[] makers = WavePass.class.getDeclaredConstructors();
        rule("one public constructor without parameters", makers.length == 1 && makers[0].getParameterCount() == 0
            && Modifier.isPublic(makers[0].getModifiers()));
        Set<String> seen = new TreeSet<>();
        for (Method m : WavePass.class.getDeclaredMethods()) {
            if (!Modifier.isPrivate(m.getModifiers())) {
                rule(m.getName() + " is public, and not static", Modifier.isPublic(m.getModifiers())
                    && !Modifier.isStatic(m.getModifiers()));
                List<String> types = new ArrayList<>();
                for (Class<?> type : m.getParameterTypes()) {
                    types.add(type.getName());
                }
                seen.add(m.getReturnType() + " " + m.getName() + "(" + String.join(",", types) + ")");
            }
        }
        Set<String> face = new TreeSet<>(Arrays.asList(FACE));
        rule("the methods are those of the face, not " + seen, seen.equals(face));
    }

    private static void constants() throws IllegalAccessException {
        Set<String> seen = new TreeSet<>();
        for (Field f : WavePass.class.getDeclaredFields()) {
            if (!Modifier.isPrivate(f.getModifiers())) {
                rule(f.getName() + " is public static final", Modifier.toString(f.getModifiers())
                    .equals("public static final"));
                seen.add(f.getType() + " " + f.getName() + " " + f.get(null));
            }
        }
        rule("the constants are those of the face, not " + seen, seen.equals(new TreeSet<>(Arrays.asList(
            "int UNKNOWN -1", "int OUTSIDE -2", "int STATE -3", "int FULL -4", "int NONE -9",
            "long LOST " + Long.MIN_VALUE))));
    }

    private static void members() {
        Class<?>[] inside = WavePass.class.getDeclaredClasses();
        rule("at most twelve classes", inside.length < 12);
        List<Class<?>> all = new ArrayList<>(Arrays.asList(inside));
        all.add(WavePass.class);
        for (Class<?> one : all) {
            if (one != WavePass.class) {
                rule(one + " is static", Modifier.isStatic(one.getModifiers()));
                rule(one + " is not public or protected",
                    !Modifier.isPublic(one.getModifiers()) && !Modifier.isProtected(one.getModifiers()));
            }
            membersOf(one);
        }
    }

    private static void membersOf(Class<?> one) {
        Set<String> faceNames = new TreeSet<>();
        for (String s : FACE) {
            faceNames.add(s.substring(s.indexOf(' ') + 1, s.indexOf('(')));
        }
        int fields = 0;
        for (Field f : one.getDeclaredFields()) {
            if (Modifier.isStatic(f.getModifiers())) {
                rule(f + " is a final constant", Modifier.isFinal(f.getModifiers())
                    && (f.getType() == int.class || f.getType() == long.class));
            } else {
                fields++;
            }
        }
        rule(one + " has at most twenty fields", fields <= 20);
        for (Method m : one.getDeclaredMethods()) {
            parametersOf(m);
            rule(m + " does not bear the name of a public one",
                Modifier.isPublic(m.getModifiers()) || !faceNames.contains(m.getName()));
        }
        for (Constructor<?> c : one.getDeclaredConstructors()) {
            parametersOf(c);
        }
    }

    private static void parametersOf(Executable e) {
        rule(e + " has at most seven parameters", e.getParameterCount() <= 7);
    }

    private static void text() throws IOException {
        byte[] bytes = Files.readAllBytes(SOURCE);
        for (byte b : bytes) {
            if (b < 1) {
                rule("signs are 1 to 127", false);
            }
        }
        String code = withoutComments(new String(bytes, StandardCharsets.US_ASCII));
        String[] words = {"throw", "throws", "try", "catch", "finally", "synchronized", "assert", "package", "protected",
            "volatile", "transient", "native", "equals", "hashCode", "toString", "Object", "Random", "Thread", "Exception"};
        for (String word : words) {
            rule("no '" + word + "'", !Pattern.compile("\\b" + word + "\\b").matcher(code).find());
        }
        for (String sign : new String[] {"->", "::", "static {", "Exact(", "while (true)", "for (;;)", "new Object"}) {
            rule("no '" + sign + "'", !code.contains(sign));
        }
        Matcher imports = Pattern.compile("import ([^;]*);").matcher(code);
        while (imports.find()) {
            rule("import of " + imports.group(1), imports.group(1).equals("java.util.Arrays"));
        }
        library(code);
        lengths(code);
    }

    private static String withoutComments(String text) {
        return text.replaceAll("(?s)/\\*.*?\\*/", "").replaceAll("//[^\n]*", "");
    }

    private static void library(String code) {
        Set<String> fine = new TreeSet<>(Arrays.asList("Arrays.fill", "Integer.bitCount", "Math.abs",
            "Math.max", "Math.min", "System.arraycopy", "Coast.firstWrongCode"));
        Matcher calls = Pattern.compile("\\b[A-Z][A-Za-z]*\\.[a-z][A-Za-z]*").matcher(code);
        while (calls.find()) {
            rule("the library has " + calls.group(), fine.contains(calls.group()));
        }
    }

    /** A method begins with a line that ends in a brace behind its parameters, and ends at its own depth. */
    private static void lengths(String code) {
        String[] lines = code.split("\n");
        for (int i = 0; i < lines.length; i++) {
            Matcher m = Pattern.compile("^( {4}| {8})[a-zA-Z].*\\) \\{$").matcher(lines[i]);
            boolean begins = m.find() && !lines[i].trim().startsWith("if") && !lines[i].trim().startsWith("for");
            if (begins) {
                int end = i;
                while (end < lines.length && !lines[end].equals(m.group(1) + "}")) {
                    end++;
                }
                rule(lines[i].trim() + " is short", end - i <= 60);
            }
        }
    }
}
