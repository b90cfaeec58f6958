import java.io.IOException;
import java.nio.file.Files;
import java.nio.file.Path;
import java.util.LinkedHashMap;
import java.util.Map;

/**
 * The document's Terms and promises, so that a test can name the words that it stands for: words that the
 * document doesn't have, and words of the document that no test names, are told as faults.
 */
final class Doc {
    private static final String TERMS = "Terms";

    private static final class Section {
        final String text;
        final boolean[] isNamed;

        Section(String text) {
            this.text = text;
            isNamed = new boolean[text.length()];
        }
    }

    private static final Map<String, Section> SECTIONS = new LinkedHashMap<>();

    private Doc() {
    }

    static void open() throws IOException {
        Path project = Path.of(System.getProperty("project", "."));
        String[] parts = Files.readString(project.resolve("../shared/DOC.md")).split("\n## ");
        for (String part : parts) {
            String heading = part.lines().findFirst().orElse("");
            if (heading.equals(TERMS) || heading.startsWith("Promise ")) {
                SECTIONS.put(heading.split(":")[0], new Section(plain(part.substring(heading.length()))));
            }
        }
        Due.is("sections of the document", SECTIONS.size(), 30);
    }

    /** Without the marks of code, the signature that begins a promise, and line ends. */
    private static String plain(String part) {
        String text = part.replace("```text", " ").replace("```", " ").replaceAll("`[^`]*`:", " ");
        return text.replaceAll("\\s+", " ").trim();
    }

    static void terms(String words) {
        name(TERMS, words);
    }

    static void promise(int number, String words) {
        name("Promise " + number, words);
    }

    private static void name(String heading, String words) {
        Due.about(heading + " \"" + words + "\"");
        Section section = SECTIONS.get(heading);
        int at = section == null ? -1 : section.text.indexOf(words);
        Due.holds("the document has these words", at >= 0);
        for (int i = 0; at >= 0 && i < words.length(); i++) {
            section.isNamed[at + i] = true;
        }
    }

    static void dueAllNamed() {
        Due.about("words that no test names");
        SECTIONS.forEach((heading, section) -> {
            for (String words : unnamed(section).split("\n")) {
                Due.holds(heading + " \"" + words + "\"", !words.matches(".*\\w.*"));
            }
        });
    }

    private static String unnamed(Section section) {
        StringBuilder rest = new StringBuilder();
        for (int i = 0; i < section.text.length(); i++) {
            rest.append(section.isNamed[i] ? '\n' : section.text.charAt(i));
        }
        return rest.toString();
    }
}
