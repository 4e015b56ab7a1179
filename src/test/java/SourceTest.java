import java.io.IOException;
import java.nio.file.Files;
import java.nio.file.Path;
import java.util.List;
import java.util.regex.Matcher;
import java.util.regex.Pattern;

/** What of LANGUAGE.md can be read from the lines of Keywright.java; run from the root of the project. */
public final class SourceTest {
    private static final Path SOURCE = Path.of("src/main/java/Keywright.java");
    private static final List<String> IMPORTS =
            List.of("import java.util.Arrays;", "import java.util.NoSuchElementException;");
    private static final String BANNED = "\\b(package|lambda|synchronized|assert|finally|catch|try|instanceof|static \\{"
            + "|Object|System\\.(?!arraycopy)\\w+|Thread|Random|\\w+Exact|equals|hashCode|toString|getClass)\\b|->|::";

    private SourceTest() {
    }

    public static void main(String[] args) throws IOException {
        List<String> lines = Files.readAllLines(SOURCE);
        for (int index = 0; index < lines.size(); index++) {
            checkLine(SOURCE + ":" + (index + 1), lines.get(index));
        }
        checkLengths(lines);
        Check.end("SourceTest");
    }

    private static void checkLine(String place, String line) {
        String code = line.replaceAll("//.*|^\\s*/?\\*.*", "").replaceAll("\"[^\"]*\"", "\"\"");
        Matcher banned = Pattern.compile(BANNED).matcher(code);
        Check.due(place + ": a word outside the language", banned.find() ? banned.group() : "", "");
        Check.due(place + ": signs", line.chars().allMatch(sign -> sign >= 32 && sign < 127), true);
        if (code.startsWith("import")) {
            Check.due(place + ": an import", IMPORTS.contains(code), true);
        }
        if (code.contains("static ") && code.contains(" = ")) {
            Check.due(place + ": static state", code.contains("private static final"), true);
        }
        checkRoom(place, code);
    }

    /** What a call makes is never given back: beside exceptions, only fields and constructors make anything. */
    private static void checkRoom(String place, String code) {
        if (code.contains("new ") && !code.contains("throw new ")) {
            boolean isField = code.contains("private final ");
            boolean isInConstructor = code.matches("\\s+(maps\\[slot\\]|held\\[place\\]) = new Table\\(\\);");
            Check.due(place + ": made in a field or a constructor", isField || isInConstructor, true);
        }
        if (code.contains("while (") || code.contains("do {")) {
            Check.due(place + ": a loop with a bound", code.contains(" < NUMBERS"), true);
        }
    }

    private static void checkLengths(List<String> lines) {
        int start = -1;
        for (int index = 0; index < lines.size(); index++) {
            String line = lines.get(index);
            if (line.matches("    (    )?(public |private )?[\\w\\[\\] ]*\\w\\(.*[{,)]") && !line.contains(";")) {
                start = index;
            }
            if (line.matches("    (    )?}") && start >= 0) {
                Check.due(SOURCE + ":" + (start + 1) + ": a short method", index - start < 60, true);
                start = -1;
            }
        }
    }
}
