import java.io.IOException;
import java.nio.file.Files;
import java.nio.file.Path;
import java.util.ArrayList;
import java.util.LinkedHashMap;
import java.util.List;
import java.util.Map;

/** The document, part by part, and which of its words the tests have quoted. */
final class Document {
    private static final Path DOC = Path.of("../shared/DOC.md");

    private final Map<String, String> parts = new LinkedHashMap<>();
    private final Map<String, boolean[]> quoted = new LinkedHashMap<>();

    Document() throws IOException {
        for (String part : ("\n" + Files.readString(DOC)).split("\n## ")) {
            int line = part.indexOf('\n');
            if (line > 0) {
                String title = part.substring(0, line).strip();
                String text = words(part.substring(line));
                parts.put(title, text);
                quoted.put(title, new boolean[text.length()]);
            }
        }
    }

    /** The sentences alone: without fences, marks of chapters, a promise's declaration, heads of the interface. */
    private static String words(String text) {
        return text.replace("```text", " ").replace("```java", " ").replace("```", " ")
            .replaceAll("==== \\d", " ").replaceAll("\n`[^`]*`:", " ")
            .replaceAll("Ahead of the calls [^\n]* ---- (1 days, laws|2 harm, trust|3 words)\\.\n", " ")
            .replaceAll("\\s+", " ").strip();
    }

    /** Whether a part has this sentence, word for word; it counts as quoted then. */
    boolean quotes(String part, String sentence) {
        String text = parts.getOrDefault(part, "");
        int from = text.indexOf(sentence);
        if (sentence.isEmpty() || from < 0) {
            return false;
        }
        for (int i = from; i < from + sentence.length(); i++) {
            quoted.get(part)[i] = true;
        }
        return true;
    }

    /** What of the terms and the promises no test has quoted. */
    List<String> unquoted() {
        List<String> all = new ArrayList<>();
        for (String part : parts.keySet()) {
            if (part.equals("Terms") || part.startsWith("Promise ")) {
                String rest = rest(parts.get(part), quoted.get(part));
                if (rest.matches(".*\\w.*")) {
                    all.add(part + ": " + rest);
                }
            }
        }
        return all;
    }

    private static String rest(String text, boolean[] done) {
        StringBuilder rest = new StringBuilder();
        for (int i = 0; i < done.length; i++) {
            rest.append(done[i] ? ' ' : text.charAt(i));
        }
        return rest.toString().replaceAll("\\s+", " ").strip();
    }

    /** What the class declares for all, a line each. */
    List<String> face() {
        List<String> all = new ArrayList<>();
        for (String line : parts.getOrDefault("The public face", "").split("(?<=[;{}])")) {
            if (line.contains("(")) {
                all.add(line.strip());
            }
        }
        return all;
    }

    int promises() {
        int many = 0;
        for (String part : parts.keySet()) {
            many += part.startsWith("Promise ") ? 1 : 0;
        }
        return many;
    }
}
