import java.io.IOException;
import java.io.UncheckedIOException;
import java.nio.file.Files;
import java.nio.file.Path;
import java.util.LinkedHashMap;
import java.util.Map;

/** The document's sections by their short names, each as one line: so tests can be held against its words. */
final class Document {
    private static final Path FILE = Path.of("../shared/DOC.md");
    private static final Map<String, String> SECTIONS = read();

    private Document() {
    }

    private static Map<String, String> read() {
        try {
            return sections(Files.readString(FILE));
        } catch (IOException e) {
            throw new UncheckedIOException(e);
        }
    }

    private static Map<String, String> sections(String text) {
        Map<String, StringBuilder> open = new LinkedHashMap<>();
        String name = "";
        for (String line : text.split("\n")) {
            String rest = line;
            if (line.startsWith("## ")) {
                name = line.substring(3).split(":")[0].trim();
                rest = "";
            } else if (line.startsWith("==== ")) {
                name = "Terms " + line.substring(5).split("\\.")[0];
            } else if (line.startsWith("```")) {
                rest = "";
            }
            open.computeIfAbsent(name, n -> new StringBuilder()).append(' ').append(rest);
        }
        Map<String, String> made = new LinkedHashMap<>();
        open.forEach((n, words) -> made.put(n, words.toString().replaceAll("\\s+", " ").trim()));
        return made;
    }

    static Map<String, String> sections() {
        return SECTIONS;
    }

    /** Where in its section a sentence begins; -1 if its words do not stand there. */
    static int placeOf(Sentence sentence) {
        return SECTIONS.getOrDefault(sentence.of(), "").indexOf(sentence.says());
    }

    /** Tells the order in which the sections stand. */
    static int rankOf(String section) {
        return SECTIONS.keySet().stream().toList().indexOf(section);
    }
}
