import java.util.ArrayList;
import java.util.List;

/**
 * Each call with all arguments at once at the first and last ones that are allowed, and the first ones that are not,
 * on objects without keys, with some, and full, compared with MapModel.
 */
public final class CornersTest {
    private static final List<String> EMPTY = List.of();
    private static final List<String> SOME = List.of("put(0, -1, 0)", "put(0, 0, 255)", "put(0, 255, -1)",
            "put(7, 0, 0)", "put(7, 255, 254)", "put(7, -1, 255)", "say(0, 255)", "say(-1, -1)", "unsay(255)");
    private static final List<String> MORE = List.of("put(0, 0, -1)", "put(0, -1, 0)", "put(0, 1, 255)",
            "put(0, 255, 1)", "put(7, 1, 0)", "put(7, 255, 0)", "copy(7, 1)", "say(255, 0)", "say(255, -1)");
    private static final List<String> FULL = full();

    private final List<String> made;
    private final String name;

    private CornersTest(String name, List<String> made) {
        this.name = name;
        this.made = made;
    }

    public static void main(String[] args) {
        new CornersTest("empty", EMPTY).checkAll();
        new CornersTest("some", SOME).checkAll();
        new CornersTest("more", MORE).checkAll();
        new CornersTest("full", FULL).checkAll();
        Check.end("CornersTest");
    }

    private static List<String> full() {
        List<String> calls = new ArrayList<>();
        for (int key = -1; key < 256; key++) {
            calls.add("put(0, " + key + ", " + (254 - key) + ")");
        }
        calls.add("copy(0, 7)");
        calls.add("put(7, 255, 255)");
        for (int word = 0; word < 60; word++) {
            calls.add("say(" + word + ", 255)");
        }
        return calls;
    }

    private void checkAll() {
        String last = "";
        for (CallTable.Entry entry : CallTable.CALLS) {
            if (!entry.name().equals(last)) {
                checkFrom(entry, 0);
            }
            last = entry.name();
        }
    }

    private void checkFrom(CallTable.Entry entry, int place) {
        if (place == entry.kinds().length()) {
            check(entry.told());
            return;
        }
        for (Object argument : corners(entry.kinds().charAt(place))) {
            checkFrom(entry.with(place, argument), place + 1);
        }
    }

    private static List<Object> corners(char kind) {
        switch (kind) {
            case 's':
                return List.of(-1, 0, 7, 8);
            case 'k':
                return List.of(-2, -1, 0, 255, 256);
            case 'i':
                return List.of(-1, 0, 2, 3, 256, 257);
            case 'w':
                return List.of('+', '>', 'x', 'y', 'i');
            case 'c':
                return List.of('i', 'd', 'f', 'p', 'e', '+');
            default:
                List<Object> corners = new ArrayList<>(CallTable.allowed(kind));
                corners.addAll(CallTable.refused(kind));
                return corners;
        }
    }

    private void check(String call) {
        Keywright x = new Keywright();
        MapModel model = new MapModel();
        for (String ahead : made) {
            Calls.answer(x, ahead);
            Calls.answer(model, ahead);
        }
        String told = name + ", " + call;
        Check.due(told, Calls.answer(x, call), Calls.answer(model, call));
        Check.due(told + ", then all of it", x.checksum(), model.checksum());
        for (int times = 0; times < 2; times++) {
            Check.due(told + ", undone", Calls.answer(x, "undo()"), Calls.answer(model, "undo()"));
            Check.due(told + ", undone, then all of it", x.checksum(), model.checksum());
        }
    }
}
