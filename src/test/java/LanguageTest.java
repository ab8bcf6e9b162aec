import java.io.IOException;
import java.nio.file.Files;
import java.nio.file.Path;
import java.util.Map;
import java.util.TreeMap;
import java.util.regex.Matcher;
import java.util.regex.Pattern;

/** What of LANGUAGE.md can be seen in the text of the class; run from the project's folder. */
public final class LanguageTest {
    private static final String[] RULED_OUT = {
        "\\b(throw|throws|try|catch|finally|synchronized|assert|volatile|transient|native|package|var|yield)\\b",
        "->", "::", "\\bstatic\\s*\\{", "\\bnew\\s+\\w+(<[^>]*>)?\\([^)]*\\)\\s*\\{", "\\.(hashCode|toString|iterator|stream|forEach|sort)\\(",
        "\\w+Exact\\(", "\\b(Exception|Error|Object|Thread|Runtime|Random|Scanner|Optional)\\b", "\\bSystem\\.(?!arraycopy)",
        "\\b(HashMap|Map|Set|HashSet|Deque|Collections|Collection)\\b", "\\bArrays\\.(?!copyOf|copyOfRange|fill)",
        "@\\w+", "\\[\\]\\[\\]", "\"", "\\bwhile\\s*\\(\\s*true"};

    public static void main(String[] args) throws IOException {
        String text = Files.readString(Path.of("src/main/java/FreightPaths.java"));
        String code = text.replaceAll("(?s)/\\*.*?\\*/", " ").replaceAll("//[^\n]*", " ");
        for (String pattern : RULED_OUT) {
            Matcher m = Pattern.compile(pattern).matcher(code);
            Due.due("ruled out: " + pattern + (m.find() ? " in: " + m.group() : ""), m.reset().find(), false);
        }
        Matcher imports = Pattern.compile("import\\s+([\\w.]+);").matcher(code);
        while (imports.find()) {
            Due.due("import " + imports.group(1), imports.group(1).matches("java\\.util\\.(ArrayList|List|Arrays)"), true);
        }
        Matcher statics = Pattern.compile("(?m)^\\s*(?:public |private )?static (?!final class|class)([^;(]*)[=;]").matcher(code);
        while (statics.find()) {
            Due.due("static field " + statics.group(1).trim(), statics.group(1).startsWith("final "), true);
        }
        shortMethods(text);
        shallowCalls(code);
        Due.finish("LanguageTest");
    }

    private static void shortMethods(String text) {
        String[] lines = text.split("\n");
        for (int start = 0; start < lines.length; start++) {
            Matcher head = Pattern.compile("^( {4}| {8})(?! ).*\\) \\{$").matcher(lines[start]);
            if (head.matches()) {
                int end = start;
                while (end < lines.length && !lines[end].equals(head.group(1) + "}")) {
                    end++;
                }
                Due.due("lines of " + lines[start].trim() + ": " + (end - start), end - start < 60, true);
            }
        }
    }

    /** By names alone, so two methods of one name count as one; a library's method is a level too. */
    private static void shallowCalls(String code) {
        Map<String, String> bodies = new TreeMap<>();
        Matcher heads = Pattern.compile("(?m)^( {4}| {8})(?! )[\\w<>\\[\\] ]*?(\\w+)\\([^)]*\\) \\{$").matcher(code);
        while (heads.find()) {
            int end = code.indexOf("\n" + heads.group(1) + "}", heads.end());
            bodies.merge(heads.group(2), code.substring(heads.end(), end), String::concat);
        }
        Due.due("methods are seen", bodies.size() > 50, true);
        for (String name : bodies.keySet()) {
            int depth = depthOf(name, bodies, 0);
            Due.due("calls below " + name + ": " + depth, depth <= 8, true);
        }
    }

    private static int depthOf(String name, Map<String, String> bodies, int open) {
        int deepest = 0;
        Matcher calls = Pattern.compile("\\b(\\w+)\\(").matcher(open > 30 ? "" : bodies.getOrDefault(name, ""));
        while (calls.find()) {
            if (!calls.group(1).equals(name)) {
                deepest = Math.max(deepest, depthOf(calls.group(1), bodies, open + 1));
            }
        }
        return deepest + 1;
    }
}
