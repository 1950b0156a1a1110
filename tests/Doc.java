import java.io.IOException;
import java.nio.file.Files;
import java.nio.file.Path;
import java.util.ArrayList;
import java.util.LinkedHashMap;
import java.util.List;
import java.util.Map;

/**
 * The document, as the tests quote it: a test goes through a section from its first word to its
 * last, piece by piece, and what it checks behind a piece tests that piece. A piece that nothing
 * tests, and a sentence that no test quotes, are wrong.
 */
final class Doc {
    private static final Path FILE = Path.of("../shared/DOC.md");
    private static final Map<String, String> SECTIONS = sections();

    private static String heading = "";
    private static String left = "";
    private static String piece = "";
    private static int checksBefore = 0;

    private Doc() {
    }

    /** A section is begun; nothing may be left of the one before. */
    static void section(String next) {
        end();
        heading = next;
        left = wordsOf(next);
        if (left.isEmpty() && isHere()) {
            Check.complain("the document has no section " + next);
        }
        Check.under(next);
    }

    /** The next piece of the section: what is checked from here on tests it. */
    static void says(String words) {
        leaves(words);
        piece = words;
        checksBefore = Check.checksSoFar();
        Check.under(heading + ": " + words);
    }

    /** The next piece of the section, if it tells nothing that could be tested alone. */
    static void leaves(String words) {
        endPiece();
        if (!isHere()) {
            return;
        }
        int at = left.indexOf(words);
        if (at < 0) {
            Check.complain("the document does not say in " + heading + ": " + words);
            return;
        }
        if (at > 0) {
            Check.complain("no test quotes of " + heading + ": " + left.substring(0, at));
        }
        left = left.substring(at + words.length()).strip();
    }

    static void end() {
        endPiece();
        if (!left.isEmpty()) {
            Check.complain("no test quotes of " + heading + ": " + left);
        }
        left = "";
    }

    private static void endPiece() {
        if (!piece.isEmpty() && Check.checksSoFar() == checksBefore) {
            Check.complain("nothing is checked of " + heading + ": " + piece);
        }
        piece = "";
    }

    /** All that the document says under a heading, with single spaces; nothing if it is not here. */
    static String wordsOf(String name) {
        return SECTIONS.getOrDefault(name, "");
    }

    static boolean isHere() {
        return !SECTIONS.isEmpty();
    }

    static List<String> headings() {
        return new ArrayList<>(SECTIONS.keySet());
    }

    /** The sections by their headings: a line with "## ", or one in capitals. */
    private static Map<String, String> sections() {
        Map<String, String> sections = new LinkedHashMap<>();
        if (!Files.isReadable(FILE)) {
            System.out.println("note: " + FILE + " is not here; its words are not compared");
            return sections;
        }
        String name = "";
        for (String line : lines()) {
            if (line.startsWith("## ") || line.matches("[A-Z][A-Z, ]+")) {
                name = line.replace("## ", "");
                sections.put(name, "");
            } else if (!name.isEmpty()) {
                sections.put(name, (sections.get(name) + " " + line).replaceAll("\\s+", " ").strip());
            }
        }
        return sections;
    }

    private static List<String> lines() {
        try {
            return Files.readAllLines(FILE);
        } catch (IOException problem) {
            throw new IllegalStateException(FILE + " can't be read", problem);
        }
    }
}
