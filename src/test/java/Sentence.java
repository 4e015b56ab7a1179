import java.util.LinkedHashMap;
import java.util.Map;
import java.util.TreeSet;

/**
 * A sentence of the document, or a piece of one, named by its promise (0 for what stands ahead of them) and its words,
 * and the checks that hold it: calls on an object, what they answer, and what all maps and the row are then.
 */
final class Sentence {
    private static final Map<Integer, Map<String, Sentence>> NAMED = new LinkedHashMap<>();

    private final String name;
    private int checks = 0;
    private Keywright x = new Keywright();
    private String[] maps = {};
    private String row = "";
    private String calls = "";

    private Sentence(String name) {
        this.name = name;
    }

    static Sentence of(int promise, String words) {
        String name = (promise == 0 ? "terms" : "promise " + promise) + ", \"" + words + "\"";
        Sentence sentence = NAMED.computeIfAbsent(promise, number -> new LinkedHashMap<>())
                .computeIfAbsent(words, text -> new Sentence(name));
        return sentence.from();
    }

    /** A new object with these maps in the slots from 0 on, and no words. */
    Sentence from(String... given) {
        return withRow("", given);
    }

    Sentence withRow(String givenRow, String... given) {
        maps = given;
        row = givenRow;
        x = Given.object(row, maps);
        calls = "";
        return this;
    }

    Sentence due(String call, Object want) {
        Object got = Calls.answer(x, call);
        calls += call + " ";
        return compare(call, String.valueOf(got), String.valueOf(want));
    }

    /** A call whose answer another sentence is about. */
    Sentence after(String call) {
        Calls.answer(x, call);
        calls += call + " ";
        return this;
    }

    /** What all slots from 0 on hold now; the row is as it was. */
    Sentence then(String... held) {
        maps = held;
        return compareAll();
    }

    /** What the row is now; the maps are as they were. */
    Sentence thenRow(String words) {
        row = words;
        return compareAll();
    }

    private Sentence compareAll() {
        long got = x.checksum();
        long want = Given.sum(row, maps);
        if (got != want) {
            for (int slot = 0; slot < maps.length; slot++) {
                System.out.println("slot " + slot + " holds " + Given.told(x, slot) + ", due is " + maps[slot]);
            }
        }
        return compare("all of it", got, want);
    }

    /** The call throws on an object as told last, and changes nothing of it, nor of what undo gives back. */
    Sentence refuses(String call, String exception) {
        Keywright asked = Given.object(row, maps);
        compare(call, Calls.answer(asked, call), "throws." + exception);
        return compare("all of it behind " + call, Check.portrait(asked), Check.portrait(Given.object(row, maps)));
    }

    private Sentence compare(String what, Object got, Object want) {
        checks++;
        Check.due(name + ": " + calls + "| " + what, got, want);
        return this;
    }

    /** The sentence for a value of a check that is made without the calls here. */
    Sentence holds(String what, Object got, Object want) {
        return compare(what, got, want);
    }

    /** Each sentence that was named stands in the document, and each one of the document was named and checked. */
    static void compareWithDocument() {
        for (Map.Entry<Integer, Map<String, Sentence>> part : NAMED.entrySet()) {
            String text = Document.text(part.getKey());
            for (Map.Entry<String, Sentence> named : part.getValue().entrySet()) {
                Check.due(named.getValue().name + " stands there", text.contains(named.getKey()), true);
                Check.due(named.getValue().name + " is checked", named.getValue().checks > 0, true);
            }
        }
        for (int promise = 0; promise <= Document.promises(); promise++) {
            Check.due("sentences of promise " + promise + " without a test", unnamed(promise).toString(), "[]");
        }
    }

    private static TreeSet<String> unnamed(int promise) {
        TreeSet<String> unnamed = new TreeSet<>();
        for (String clause : Document.clauses(promise)) {
            boolean isNamed = false;
            for (String words : NAMED.getOrDefault(promise, Map.of()).keySet()) {
                isNamed |= clause.contains(words) || words.contains(clause);
            }
            if (!isNamed) {
                unnamed.add(clause);
            }
        }
        return unnamed;
    }
}
