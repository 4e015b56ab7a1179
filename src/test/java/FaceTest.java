import java.lang.reflect.Constructor;
import java.lang.reflect.Field;
import java.lang.reflect.Method;
import java.lang.reflect.Modifier;
import java.util.Arrays;
import java.util.TreeSet;
import java.util.stream.Collectors;

/** The public face is the document's one, and nothing but private members and classes stands beside it. */
public final class FaceTest {
    private static final String[] FACE = {
        "int put(int,int,int) I A", "int putFirst(int,int,int) I A", "int change(int,int,int) I A",
        "boolean changeIf(int,int,int,int) I A", "int take(int,int) I A", "boolean takeIf(int,int,int) I A",
        "int merge(int,int,int,char) I A", "int compute(int,int,char) I A", "int clear(int) I",
        "int get(int,int) I A", "int getOr(int,int,int) I A", "boolean has(int,int) I A",
        "boolean hasValue(int,int) I A", "int size(int) I", "int kinds(int) I", "int keyAt(int,int) I N",
        "boolean isSame(int,int) I", "boolean areSameKeys(int,int) I", "boolean areSameValues(int,int) I",
        "int hash(int) I", "int keysHash(int) I", "int dropValue(int,int) I A", "int dropOdd(int) I",
        "int shift(int,int) I A", "int copy(int,int) I", "int join(int,int,int) I", "int less(int,int,int) I",
        "int common(int,int,int) I", "int alike(int,int,int) I", "int behind(int,int,int) I",
        "int turn(int,int) I U", "int power(int,int,int) I A", "boolean isInto(int) I", "int fixed(int) I",
        "int steps(int,int) I A N", "int ring(int,int) I A N", "long order(int) I U", "int say(int,int) A S",
        "int unsay(int) A S", "int hush()", "int stir(int) A", "int play(int) I", "int playLast(int,boolean) I",
        "int lastWords()", "int undo() N", "float share(int) I D", "double meanSize()", "long checksum()",
        "boolean isSound()",
    };

    private FaceTest() {
    }

    public static void main(String[] args) {
        checkClass();
        checkMethods();
        checkClassesInside();
        Check.end("FaceTest");
    }

    private static void checkClass() {
        Class<?> face = Keywright.class;
        Check.due("public and final", Modifier.toString(face.getModifiers()), "public final");
        Check.due("constructors", face.getDeclaredConstructors().length, 1);
        for (Constructor<?> constructor : face.getDeclaredConstructors()) {
            Check.due("the constructor", constructor.toString(), "public Keywright()");
        }
        for (Field field : face.getDeclaredFields()) {
            Check.due(field + " is private", Modifier.isPrivate(field.getModifiers()), true);
        }
    }

    private static void checkMethods() {
        TreeSet<String> open = new TreeSet<>();
        TreeSet<String> openNames = new TreeSet<>();
        for (Method method : Keywright.class.getDeclaredMethods()) {
            if (!Modifier.isPrivate(method.getModifiers()) && !method.isSynthetic()) {
                open.add(told(method));
                openNames.add(method.getName());
            }
        }
        TreeSet<String> due = new TreeSet<>(Arrays.asList(FACE));
        due.removeIf(open::contains);
        Check.due("what of the face is missing", due.toString(), "[]");
        open.removeAll(Arrays.asList(FACE));
        Check.due("what is open beside the face", open.toString(), "[]");
        for (Method method : Keywright.class.getDeclaredMethods()) {
            if (Modifier.isPrivate(method.getModifiers())) {
                Check.due(method + " bears a public name", openNames.contains(method.getName()), false);
            }
        }
    }

    private static String told(Method method) {
        String types = Arrays.stream(method.getParameterTypes()).map(Class::getName).collect(Collectors.joining(","));
        StringBuilder text = new StringBuilder();
        text.append(method.getReturnType().getName()).append(' ').append(method.getName());
        text.append('(').append(types).append(')');
        for (Class<?> thrown : method.getExceptionTypes()) {
            text.append(' ').append(letterOf(thrown.getSimpleName()));
        }
        return text.toString();
    }

    private static String letterOf(String thrown) {
        switch (thrown) {
            case "IndexOutOfBoundsException":
                return "I";
            case "IllegalArgumentException":
                return "A";
            case "NoSuchElementException":
                return "N";
            case "UnsupportedOperationException":
                return "U";
            case "IllegalStateException":
                return "S";
            case "ArithmeticException":
                return "D";
            default:
                return thrown;
        }
    }

    private static void checkClassesInside() {
        Class<?>[] inside = Keywright.class.getDeclaredClasses();
        Check.due("at most twelve classes", inside.length <= 12, true);
        for (Class<?> one : inside) {
            int modifiers = one.getModifiers();
            Check.due(one + " is not open", Modifier.isPublic(modifiers) || Modifier.isProtected(modifiers), false);
            Check.due(one + " is static", Modifier.isStatic(modifiers), true);
            for (Method method : one.getDeclaredMethods()) {
                boolean isPrivate = Modifier.isPrivate(method.getModifiers());
                Check.due(method + " bears a public name", isPrivate && isOfFace(method.getName()), false);
            }
        }
    }

    private static boolean isOfFace(String name) {
        return Arrays.stream(FACE).anyMatch(line -> line.contains(" " + name + "("));
    }
}
