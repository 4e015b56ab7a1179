import java.io.IOException;
import java.io.UncheckedIOException;
import java.nio.file.Files;
import java.nio.file.Path;
import java.util.ArrayList;
import java.util.List;

/** The text of ../shared/DOC.md: its promises by their numbers, and under 0 what is said ahead of them. */
final class Document {
    private static final List<String> PARTS = read();

    private Document() {
    }

    private static List<String> read() {
        List<String> parts = new ArrayList<>();
        parts.add("");
        for (String section : content().split("(?m)^## ")) {
            String[] halves = section.split("\n", 2);
            if (halves[0].equals("Terms")) {
                parts.set(0, parts.get(0) + "\n\n" + halves[1]);
            } else if (halves[0].equals("What it is")) {
                parts.set(0, halves[1].substring(halves[1].indexOf("An object is used")));
            } else if (halves[0].startsWith("Promise " + parts.size() + ":")) {
                parts.add(halves[1].trim().replaceFirst("^`[^`]*`: ", ""));
            }
        }
        return parts;
    }

    static String content() {
        try {
            return Files.readString(Path.of("../shared/DOC.md"));
        } catch (IOException thrown) {
            throw new UncheckedIOException(thrown);
        }
    }

    static int promises() {
        return PARTS.size() - 1;
    }

    static String text(int promise) {
        return PARTS.get(promise).replaceAll("\\s+", " ");
    }

    /** Its paragraphs and list rows, cut where a sentence or a half of one ends. */
    static List<String> clauses(int promise) {
        List<String> clauses = new ArrayList<>();
        for (String paragraph : paragraphs(promise)) {
            for (String clause : paragraph.replaceFirst("^(Part \\d, \\w+|Exceptions)\\. ", "").split("; |\\. |\\.$")) {
                clauses.add(clause.trim());
            }
        }
        return clauses;
    }

    private static List<String> paragraphs(int promise) {
        List<String> paragraphs = new ArrayList<>();
        for (String paragraph : PARTS.get(promise).split("\n\\s*\n|\n(?=- )")) {
            String text = paragraph.replaceAll("\\s+", " ").replaceFirst("^ ?- ", "").trim();
            if (!text.isEmpty()) {
                paragraphs.add(text);
            }
        }
        return paragraphs;
    }

    /** The sentence that tells when a promise throws an exception. */
    static String throwing(int promise, String exception) {
        for (String paragraph : paragraphs(promise)) {
            if (paragraph.startsWith("Throws `" + exception + "`")) {
                return paragraph;
            }
        }
        throw new IllegalStateException("promise " + promise + " throws no " + exception);
    }
}
