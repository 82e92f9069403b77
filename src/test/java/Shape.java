import java.util.ArrayList;
import java.util.List;
import java.util.regex.Matcher;
import java.util.regex.Pattern;

/** The methods of a Java text without comments, and which of them call which, as far as names tell. */
final class Shape {
    /** Beyond this a way through calls is taken for one that has no end. */
    private static final int ENDLESS = 100;
    private static final Pattern HEAD = Pattern.compile("^( {4}| {8})(?!if|for|switch)[a-zA-Z].*?(\\w+)\\(.*\\) \\{$");

    record Method(String name, String body, int lines) { }

    final List<Method> methods = new ArrayList<>();

    /** A method begins with a line that ends in a brace behind its parameters, and ends at its own depth. */
    Shape(String code) {
        String[] lines = code.split("\n");
        for (int i = 0; i < lines.length; i++) {
            Matcher m = HEAD.matcher(lines[i]);
            if (!m.find()) {
                continue;
            }
            StringBuilder body = new StringBuilder();
            int end = i + 1;
            for (; end < lines.length && !lines[end].equals(m.group(1) + "}"); end++) {
                body.append(lines[end]).append('\n');
            }
            methods.add(new Method(m.group(2), body.toString(), end - i));
        }
    }

    /** How many calls stand open at once, this one too. */
    int depth(String name, int open) {
        if (open > ENDLESS) {
            return ENDLESS;
        }
        int deepest = 0;
        for (Method one : methods) {
            if (one.name.equals(name)) {
                deepest = Math.max(deepest, deepestWithin(one, open + 1));
            }
        }
        return 1 + deepest;
    }

    private int deepestWithin(Method one, int open) {
        int deepest = 0;
        for (Method other : methods) {
            if (Pattern.compile("\\b" + other.name + "\\(").matcher(one.body).find()) {
                deepest = Math.max(deepest, depth(other.name, open));
            }
        }
        return deepest;
    }
}
