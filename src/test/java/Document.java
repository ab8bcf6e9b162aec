import java.io.IOException;
import java.nio.file.Files;
import java.nio.file.Path;
import java.util.Map;
import java.util.TreeMap;

/** The words of ../shared/DOC.md that must hold, by the parts under which they stand, and which of them have a case. */
final class Document {
    private final Map<String, String> words = new TreeMap<>();
    private final Map<String, boolean[]> seen = new TreeMap<>();

    Document(Path path) throws IOException {
        String part = "";
        boolean within = false;
        for (String line : Files.readAllLines(path)) {
            String text = line.trim();
            if (text.startsWith("## ")) {
                within = text.equals("## Terms") || text.startsWith("## Promise");
                part = text.substring(3).replaceAll(":.*", "");
            } else if (text.startsWith("An object is used")) {
                add(part, text);
            } else if (within && text.startsWith("==== ")) {
                part = "Terms " + text.charAt(5);
                add(part, text.substring(8));
            } else if (within && text.startsWith("What is refused")) {
                part = "Terms";
                add(part, text);
            } else if (within && !text.startsWith("```")) {
                add(part, text);
            }
        }
        words.replaceAll((name, text) -> text.replaceAll("^`[^`]*`: ", ""));
        words.forEach((name, text) -> seen.put(name, new boolean[text.length()]));
    }

    private void add(String part, String text) {
        if (!text.isEmpty()) {
            words.merge(part, text, (before, more) -> before + " " + more);
        }
    }

    /** Whether the words stand there, in that part; they count as seen then. */
    boolean says(String part, String quoted) {
        int at = words.getOrDefault(part, "").indexOf(quoted);
        for (int i = at; at >= 0 && i < at + quoted.length(); i++) {
            seen.get(part)[i] = true;
        }
        return at >= 0;
    }

    /** The words of a part that no case has quoted. */
    String unseen(String part) {
        StringBuilder left = new StringBuilder();
        for (int i = 0; i < words.get(part).length(); i++) {
            left.append(seen.get(part)[i] ? ' ' : words.get(part).charAt(i));
        }
        return left.toString().trim().replaceAll("  +", " .. ");
    }

    Iterable<String> parts() {
        return words.keySet();
    }
}
