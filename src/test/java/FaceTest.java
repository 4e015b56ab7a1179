import java.lang.reflect.Constructor;
import java.lang.reflect.Field;
import java.lang.reflect.Method;
import java.lang.reflect.Modifier;
import java.util.Arrays;
import java.util.Set;
import java.util.TreeSet;
import java.util.regex.Matcher;
import java.util.regex.Pattern;
import java.util.stream.Collectors;

/** The public face is the one of ../shared/DOC.md, and nothing but private members and classes stands beside it. */
public final class FaceTest {
    private static final Pattern METHOD = Pattern.compile(
            "public (\\w+) (\\w+)\\(([^)]*)\\)(?: throws ([\\w, ]+))?;");
    private static final Set<String> FACE = new TreeSet<>();
    private static final Set<String> NAMES = new TreeSet<>();

    private FaceTest() {
    }

    public static void main(String[] args) {
        readFace();
        checkClass();
        checkMethods();
        checkClassesInside();
        Check.end("FaceTest");
    }

    /** The methods of the face, as DOC.md has them, without the names of what they are given. */
    private static void readFace() {
        Matcher method = METHOD.matcher(Document.content());
        while (method.find()) {
            String types = method.group(3).replaceAll(" \\w+(, )?", "$1").replace(", ", ",");
            String thrown = method.group(4) == null ? "" : " throws " + method.group(4);
            FACE.add(method.group(1) + " " + method.group(2) + "(" + types + ")" + thrown);
            NAMES.add(method.group(2));
        }
        Check.due("as many methods as promises beside the first one", FACE.size(), Document.promises() - 1);
    }

    private static void checkClass() {
        Class<?> face = Keywright.class;
        Check.due("public and final", Modifier.toString(face.getModifiers()), "public final");
        Check.due("constructors", face.getDeclaredConstructors().length, 1);
        for (Constructor<?> constructor : face.getDeclaredConstructors()) {
            Check.due("the constructor", constructor.toString(), "public Keywright()");
        }
        for (Field field : face.getDeclaredFields()) {
            Check.due(field + " is private", Modifier.isPrivate(field.getModifiers()), true);
        }
    }

    private static void checkMethods() {
        TreeSet<String> open = new TreeSet<>();
        for (Method method : Keywright.class.getDeclaredMethods()) {
            if (!Modifier.isPrivate(method.getModifiers()) && !method.isSynthetic()) {
                Check.due(method + " is public", Modifier.isPublic(method.getModifiers()), true);
                open.add(told(method));
            } else {
                Check.due(method + " bears a public name", NAMES.contains(method.getName()), false);
            }
        }
        Check.due("the methods of the face", open, FACE);
    }

    private static String told(Method method) {
        String thrown = names(method.getExceptionTypes(), ", ");
        return method.getReturnType().getName() + " " + method.getName()
                + "(" + names(method.getParameterTypes(), ",") + ")" + (thrown.isEmpty() ? "" : " throws " + thrown);
    }

    private static String names(Class<?>[] types, String between) {
        return Arrays.stream(types).map(Class::getSimpleName).collect(Collectors.joining(between));
    }

    private static void checkClassesInside() {
        Class<?>[] inside = Keywright.class.getDeclaredClasses();
        Check.due("at most twelve classes", inside.length <= 12, true);
        for (Class<?> one : inside) {
            int modifiers = one.getModifiers();
            Check.due(one + " is not open", Modifier.isPublic(modifiers) || Modifier.isProtected(modifiers), false);
            Check.due(one + " is static", Modifier.isStatic(modifiers), true);
            for (Method method : one.getDeclaredMethods()) {
                boolean isPrivate = Modifier.isPrivate(method.getModifiers());
                Check.due(method + " bears a public name", isPrivate && NAMES.contains(method.getName()), false);
            }
        }
    }
}
