import java.io.IOException;
import java.nio.file.Files;
import java.nio.file.Path;
import java.util.List;
import java.util.regex.Matcher;
import java.util.regex.Pattern;

/** What of LANGUAGE.md can be read from the lines of Keywright.java; run from the root of the project. */
public final class SourceTest {
    private static final Path SOURCE = Path.of("src/main/java/Keywright.java");
    private static final int MOST_LINES = 65;
    private static final String[][] RULES = {
        {"a package", "^package\\b"},
        {"2: a method reference", "::"},
        {"2: a lambda", "^(?!\\s*(case|default)\\b).*->"},
        {"4: the library", "\\b(System\\.(?!arraycopy\\b)\\w+|\\w+Exact|Scanner|Thread|Random|Object)\\b"},
        {"4: the library by its path", "^(?!import).*\\bjavax?\\."},
        {"5: a static block", "\\bstatic\\s*\\{"},
        {"5: static state", "^(?!.*\\bfinal\\b).*\\bstatic (?!class\\b|abstract\\b|interface\\b|enum\\b|record\\b)"
                + "[^(]*(=|;)"},
        {"6: an exception's own", "\\b(finally|getMessage|getCause|printStackTrace)\\b|extends \\w*Exception|try \\("},
        {"6: equals of objects", "\\b(hashCode|getClass)\\b"},
        {"6: a lock", "\\b(synchronized|assert|volatile)\\b"},
        {"6: what the machine throws", "catch \\(.*(Throwable|\\bException|NullPointer|ArrayIndex|ClassCast"
                + "|NegativeArray|ArrayStore|Error)"},
        {"10: texts joined by +", "\"\" ?\\+|\\+ ?\"\""},
    };

    private SourceTest() {
    }

    public static void main(String[] args) throws IOException {
        List<String> lines = Files.readAllLines(SOURCE);
        for (int index = 0; index < lines.size(); index++) {
            checkLine(SOURCE + ":" + (index + 1), lines.get(index));
        }
        checkLengths(lines);
        Check.end("SourceTest");
    }

    private static void checkLine(String place, String line) {
        String code = line.replaceAll("//.*|^\\s*/?\\*.*", "").replaceAll("\"[^\"]*\"", "\"\"");
        for (String[] rule : RULES) {
            Matcher found = Pattern.compile(rule[1]).matcher(code);
            Check.due(place + ", rule " + rule[0], found.find() ? found.group() : "", "");
        }
        Check.due(place + ", rule 4: signs", line.chars().allMatch(sign -> sign >= 1 && sign < 128), true);
        if (code.startsWith("import")) {
            String allowed = "import java\\.util\\.(ArrayList|Arrays|Iterator|List|NoSuchElementException);";
            boolean isAllowed = code.matches(allowed);
            Check.due(place + ", rule 4: an import", isAllowed, true);
        }
    }

    private static void checkLengths(List<String> lines) {
        int start = -1;
        for (int index = 0; index < lines.size(); index++) {
            String line = lines.get(index);
            if (line.matches("    (    )?(public |private )?[\\w\\[\\] ]*\\w\\(.*[{,)]") && !line.contains(";")) {
                start = index;
            }
            if (line.matches("    (    )?}") && start >= 0) {
                Check.due(SOURCE + ":" + (start + 1) + ", rule 11: a short method", index - start < MOST_LINES, true);
                start = -1;
            }
        }
    }
}
