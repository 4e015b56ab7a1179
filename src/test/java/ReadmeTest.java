import java.io.IOException;
import java.lang.reflect.Method;
import java.lang.reflect.Modifier;
import java.nio.file.Files;
import java.nio.file.Path;
import java.util.TreeSet;
import java.util.regex.Matcher;
import java.util.regex.Pattern;

/** The calls that README.md shows answer what it says, and it shows each call; run from the root of the project. */
public final class ReadmeTest {
    private static final Pattern NEW_OBJECT = Pattern.compile("^Keywright x = new Keywright\\(\\);");
    private static final Pattern CALL = Pattern.compile("^x\\.((\\w+)\\(.*?\\)); *// (throws )?([\\w.-]+)");

    private ReadmeTest() {
    }

    public static void main(String[] args) throws IOException {
        TreeSet<String> left = namesOfFace();
        Keywright x = null;
        for (String line : Files.readAllLines(Path.of("README.md"))) {
            Matcher call = CALL.matcher(line);
            if (NEW_OBJECT.matcher(line).find()) {
                x = new Keywright();
            } else if (x != null && call.find()) {
                String due = call.group(3) == null ? call.group(4) : "throws." + call.group(4);
                Check.due("README.md: " + call.group(1), String.valueOf(Calls.answer(x, call.group(1))), due);
                left.remove(call.group(2));
            } else {
                Check.due("README.md: an answer behind " + line, line.startsWith("x."), false);
            }
        }
        Check.due("calls that README.md does not show", left.toString(), "[]");
        Check.end("ReadmeTest");
    }

    private static TreeSet<String> namesOfFace() {
        TreeSet<String> names = new TreeSet<>();
        for (Method method : Keywright.class.getDeclaredMethods()) {
            if (Modifier.isPublic(method.getModifiers())) {
                names.add(method.getName());
            }
        }
        return names;
    }
}
