import java.io.IOException;
import java.nio.file.Files;
import java.nio.file.Path;
import java.util.LinkedHashMap;
import java.util.List;
import java.util.Map;

/**
 * The words of ../shared/DOC.md that bind the class, and which of them a test has quoted so far.
 * A quote must stand in the document; in the end, every word of the document must be quoted.
 */
final class Doc {
    private static final class Section {
        final StringBuilder words = new StringBuilder();
        boolean[] quoted = {};
    }

    private static final Map<String, Section> SECTIONS = new LinkedHashMap<>();
    private static Section current = null;

    private Doc() {
    }

    /** .ci/run tells where the document is. */
    static List<String> lines() throws IOException {
        String told = System.getenv("MEMO_PARSER_DOC");
        return Files.readAllLines(Path.of(told == null ? "../shared/DOC.md" : told));
    }

    /** Reads what the class is, the description and the promises. */
    static void read() throws IOException {
        Section section = null;
        for (String line : lines()) {
            if (line.startsWith("## ")) {
                String name = line.substring(3).replaceAll(":.*", "");
                boolean binds = name.equals("What it is") || name.equals("Description") || name.startsWith("Promise");
                section = binds ? new Section() : null;
                if (binds) {
                    SECTIONS.put(name, section);
                }
            } else if (section != null && !line.isBlank() && !isSignature(line) && !line.startsWith("----")) {
                section.words.append(line.strip()).append(' ');
            }
        }
        for (Section one : SECTIONS.values()) {
            one.quoted = new boolean[one.words.length()];
        }
        Check.due("sections of the document", SECTIONS.size(), 25);
    }

    /** FaceTest holds the signatures. */
    private static boolean isSignature(String line) {
        return line.startsWith("`") && line.endsWith("`");
    }

    static void opening() {
        current = SECTIONS.get("What it is");
    }

    static void description() {
        current = SECTIONS.get("Description");
    }

    static void promise(int number) {
        current = SECTIONS.get("Promise " + number);
    }

    /** The checks that follow are of these words. */
    static void says(String words) {
        Check.about(words);
        int at = current == null ? -1 : current.words.indexOf(words);
        Check.due("these words stand in the document", at >= 0, true);
        for (int i = 0; i < words.length() && at >= 0; i++) {
            current.quoted[at + i] = true;
        }
    }

    static void everyWordIsQuoted() {
        Check.about("every word of the document has a test");
        SECTIONS.forEach((name, section) -> Check.due(name + ", not quoted", notQuoted(section), ""));
    }

    private static String notQuoted(Section section) {
        StringBuilder left = new StringBuilder();
        for (int i = 0; i < section.quoted.length; i++) {
            boolean isWord = Character.isLetterOrDigit(section.words.charAt(i));
            if (!section.quoted[i] && (isWord || left.length() > 0)) {
                left.append(section.words.charAt(i));
            }
        }
        return left.toString().strip();
    }
}
