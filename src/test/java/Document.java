import java.io.IOException;
import java.nio.file.Files;
import java.nio.file.Path;
import java.util.LinkedHashMap;
import java.util.Map;

/** The document's words, section by section, and which of them no test has quoted yet. */
final class Document {
    private final Map<String, String> sections = new LinkedHashMap<>();
    private final Map<String, String> unquoted = new LinkedHashMap<>();

    Document(Path path) throws IOException {
        for (String section : Files.readString(path).split("(?m)^## ")) {
            String[] parts = section.split("\n", 2);
            String name = parts[0].replaceFirst(":.*", "").strip();
            sections.put(name, plain(parts.length == 2 ? parts[1] : ""));
        }
        unquoted.putAll(sections);
    }

    /** Without line breaks, fences, the marks of parts, and the method's line that a promise begins with. */
    private static String plain(String section) {
        String line = section.replaceAll("```\\w*|==== \\d\\.", " ").replaceAll("\\s+", " ").strip();
        return line.replaceFirst("^`[^`]*`: ", "");
    }

    String wordsOf(String section) {
        return sections.getOrDefault(section, "");
    }

    boolean has(String section, String words) {
        return wordsOf(section).contains(words);
    }

    void quote(String section, String words) {
        unquoted.computeIfPresent(section, (name, left) -> left.replace(words, " "));
    }

    String unquotedIn(String section) {
        return unquoted.getOrDefault(section, "no such section").strip();
    }
}
