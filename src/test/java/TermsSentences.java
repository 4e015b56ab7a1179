import java.util.Collections;
import java.util.ArrayList;
import java.util.List;

/** What the document says ahead of its promises: how long an object is used, maps, following, words, exceptions. */
final class TermsSentences {
    private static final String NOTHING = "A method that throws an exception changes nothing.";
    private static final String FIRST = "If several exceptions apply, the one that is documented first is thrown.";

    private TermsSentences() {
    }

    static void check() {
        lifetime();
        numbers();
        maps();
        slots();
        told();
        order();
        otherOrders();
        behind();
        powers();
        turning();
        following();
        row();
        playing();
        exceptions();
    }

    private static void lifetime() {
        Sentence s = Sentence.of(0, "An object is used for at most 512 calls after it has been made;"
                + " what later calls answer is free.");
        for (CallTable.Entry entry : CallTable.CALLS) {
            Keywright late = Given.object(CallTable.ROW, CallTable.MAPS);
            // Ten calls were made with these maps and this row.
            for (int call = 11; call <= 511; call++) {
                late.size(call % 8);
            }
            Keywright fresh = Given.object(CallTable.ROW, CallTable.MAPS);
            s.holds(entry.told() + " as the 512th call", Calls.answer(late, entry.told()),
                    Calls.answer(fresh, entry.told()));
        }
        s.from();
        for (int call = 1; call <= 510; call++) {
            s.due("compute(7, 255, 'i')", (call - 1) % 256);
        }
        s.then("", "", "", "", "", "", "", "255:253").due("undo()", 7);
    }

    private static void numbers() {
        Sentence s = Sentence.of(0, "Keys and values are 0 to 255, or none, told as -1,"
                + " which can be a key, and a value, too.");
        for (int number = -1; number <= 255; number++) {
            int other = 254 - number;
            s.from().due("put(0, " + number + ", " + other + ")", -2).then(number + ":" + other)
                    .due("get(0, " + number + ")", other);
        }
        s.from().due("put(0, -1, -1)", -2).then("-1:-1").due("get(0, -1)", -1).due("has(0, 0)", false);
        s.from("1:1").refuses("put(0, -2, 1)", "IllegalArgumentException");
        s.from("1:1").refuses("put(0, 256, 1)", "IllegalArgumentException");
        s.from("1:1").refuses("put(0, 1, -2)", "IllegalArgumentException");
        s.from("1:1").refuses("put(0, 1, 256)", "IllegalArgumentException");
    }

    private static void maps() {
        Sentence s = Sentence.of(0, "A map has some keys, none twice, and a value for each.");
        for (int key : new int[] {-1, 0, 255}) {
            s.from().after("put(0, " + key + ", 1)").after("put(0, " + key + ", 1)").then(key + ":1");
            s.after("put(0, " + key + ", 2)").then(key + ":2").due("size(0)", 1).due("keyAt(0, 0)", key)
                    .due("keyAt(0, 1)", "throws.NoSuchElementException");
        }
        String all = Given.all(key -> 7);
        s.from(all).then(all).due("size(0)", 257).due("put(0, 255, 7)", 7).due("size(0)", 257).then(all);
    }

    private static void slots() {
        Sentence s = Sentence.of(0, "The slots 0 to 7 hold a map each, at first without keys.");
        s.from().then();
        String[] held = {"", "", "", "", "", "", "", ""};
        for (int slot = 0; slot < 8; slot++) {
            held[slot] = slot + ":" + 2 * slot;
            s.due("size(" + slot + ")", 0).due("put(" + slot + ", " + slot + ", " + 2 * slot + ")", -2).then(held);
        }
        s.refuses("size(-1)", "IndexOutOfBoundsException").refuses("size(8)", "IndexOutOfBoundsException");
    }

    private static void told() {
        Sentence s = Sentence.of(0, "What a key has is told as its value, or as -2, if it is no key of the map.");
        String map = "-1:255 0:-1 255:0";
        s.from(map).due("get(0, -1)", 255).due("get(0, 0)", -1).due("get(0, 255)", 0).due("get(0, 1)", -2)
                .due("get(0, 254)", -2).due("get(1, -1)", -2).due("get(1, 0)", -2).due("get(1, 255)", -2);
        for (String call : new String[] {"put(0, #, 9)", "putFirst(0, #, 9)", "change(0, #, 9)", "take(0, #)"}) {
            s.from(map).due(call.replace("#", "-1"), 255).due(call.replace("#", "0"), -1)
                    .due(call.replace("#", "255"), 0).due(call.replace("#", "1"), -2);
        }
        s.from(map).due("merge(0, -1, 1, 'x')", -2).due("compute(0, 0, 'd')", -2).due("compute(0, 1, 'p')", -2);
    }

    private static void order() {
        Sentence s = Sentence.of(0, "Keys are in order by their numbers, none ahead of all.");
        s.from("255:1 1:2 -1:3 0:4").due("keyAt(0, 0)", -1).due("keyAt(0, 1)", 0).due("keyAt(0, 2)", 1)
                .due("keyAt(0, 3)", 255).then("-1:3 0:4 1:2 255:1");
        s.from(Given.all(key -> 3));
        for (int index = 0; index < 250; index++) {
            s.due("keyAt(0, " + index + ")", index - 1);
        }
        s.from(Given.all(key -> 3)).due("keyAt(0, 255)", 254).due("keyAt(0, 256)", 255);
    }

    /** The library's order of keys depends on how large its table is, and on which keys came ahead in a place. */
    private static void otherOrders() {
        Sentence s = Sentence.of(0, "An order of keys in which the library goes through them tells nothing.");
        List<Integer> keys = new ArrayList<>(List.of(-1, 0, 16, 32, 48, 64, 128, 255, 15, 31, 1, 17));
        String due = "-1:5 0:6 1:7 15:21 16:22 17:23 31:37 32:38 48:54 64:70 128:134 255:5";
        for (int turn = 0; turn < keys.size(); turn++) {
            Collections.rotate(keys, 1);
            s.from();
            for (int key = 200; key < 200 + 20 * (turn % 2); key++) {
                s.after("put(0, " + key + ", 1)").after("take(0, " + key + ")");
            }
            for (int key : keys) {
                s.after("put(0, " + key + ", " + (key + 6 > 255 ? 5 : key + 6) + ")");
            }
            s.then(due).due("keyAt(0, 3)", 15).due("keysHash(0)", 607).due("turn(0, 1)",
                    "throws.UnsupportedOperationException").due("steps(0, 255)", 1).due("isSound()", true);
        }
    }

    private static void behind() {
        Sentence s = Sentence.of(0, "To put a map behind another one gives the map that has the keys of the other one"
                + " whose value is a key of it, with what that has there.");
        String other = "-1:0 0:255 1:-1 2:7 255:-1";
        s.from(other, "-1:9 0:-1 8:8 255:255").due("behind(0, 1, 2)", 4)
                .then(other, "-1:9 0:-1 8:8 255:255", "-1:-1 0:255 1:9 255:9");
        s.from(other, "").due("behind(0, 1, 2)", 0).due("behind(1, 0, 2)", 0).then(other);
    }

    private static void powers() {
        Sentence s = Sentence.of(0, "The power 0 of a map has its keys, each with itself, the power n, above 0,"
                + " is the map behind the power n - 1.");
        String map = "-1:0 0:3 3:-1 4:9 5:4 255:255";
        s.from(map).due("power(0, 0, 1)", 6).then(map, "-1:-1 0:0 3:3 4:4 5:5 255:255");
        s.from(map).due("power(0, 1, 1)", 6).then(map, map);
        s.from(map).due("power(0, 2, 1)", 5).then(map, "-1:3 0:-1 3:0 5:9 255:255");
        s.from(map).after("power(0, 0, 1)");
        for (int exponent = 1; exponent <= 80; exponent++) {
            s.after("behind(1, 0, 1)").after("power(0, " + exponent + ", 2)").due("isSame(1, 2)", true);
        }
    }

    private static void turning() {
        Sentence s = Sentence.of(0, "A map is into itself if each value is a key of it;");
        s.from("-1:0 0:255 255:-1").due("isInto(0)", true);
        s.from("-1:0 0:255 255:-1 1:2").due("isInto(0)", false);
        s.from("0:-1").due("isInto(0)", false);
        Sentence.of(0, "it is turned round if each value becomes a key, with the key that had it.")
                .from("-1:0 0:255 255:1").due("turn(0, 1)", 3).then("-1:0 0:255 255:1", "0:-1 1:255 255:0");
    }

    private static void following() {
        Sentence s = Sentence.of(0, "Following a key, one goes to its value, and so on, as long as that is a key;");
        s.from("-1:0 0:255 255:7").due("steps(0, -1)", 3).due("steps(0, 0)", 2).due("steps(0, 255)", 1);
        s.from("5:6 6:-1").due("steps(0, 5)", 2);
        s.from("5:6 6:-1 -1:-1").due("steps(0, 5)", 3);
        Sentence.of(0, "one comes to a ring, if a key comes a second time.")
                .from("-1:0 0:255 255:7 7:0 8:8 9:10").due("ring(0, -1)", 3).due("ring(0, 0)", 3)
                .due("ring(0, 8)", 1).due("ring(0, 9)", 0);
    }

    private static void row() {
        Sentence s = Sentence.of(0, "There is a row of at most 60 words, empty at first:"
                + " to write a value for a key, or to take a key away.");
        s.from().due("hush()", 0).due("lastWords()", 0).due("play(0)", 0).thenRow("");
        for (int count = 1; count <= 60; count++) {
            s.due(count % 2 == 0 ? "say(3, 4)" : "unsay(3)", count);
        }
        s.thenRow("3:-2 3:4 ".repeat(30)).refuses("say(3, 4)", "IllegalStateException")
                .refuses("unsay(3)", "IllegalStateException").due("lastWords()", 1).due("hush()", 60);
    }

    private static void playing() {
        Sentence s = Sentence.of(0, "To play it is to do so, in its order, on a map without keys.");
        s.withRow("1:2 1:3 2:4 2:-2 3:-2 3:-1", "8:8").due("play(0)", 2).then("1:3 3:-1");
        s.withRow("1:-2 1:2", "1:7").due("play(0)", 1).then("1:2");
        s.withRow("1:2 1:-2", "1:7").due("play(0)", 0).then("");
        // Whatever was made of other maps ahead, nothing of it is in the one that it is played on.
        for (String call : new String[] {
            "copy(0, 1)", "join(0, 1, 1)", "power(0, 0, 1)", "turn(0, 1)", "isSound()", "play(1)",
            "playLast(1, true)",
        }) {
            s.withRow("4:5", "-1:0 255:-1").after(call).after("copy(0, 1)").due("play(2)", 1)
                    .then("-1:0 255:-1", "-1:0 255:-1", "4:5").after(call).after("copy(0, 1)")
                    .due("playLast(3, false)", 1).due("playLast(4, true)", 1)
                    .then("-1:0 255:-1", "-1:0 255:-1", "4:5", "4:5", "4:5");
        }
        Sentence last = Sentence.of(0, "The last words are those that no later one of their key follows.");
        last.withRow("1:2 1:2").due("lastWords()", 1);
        last.withRow("1:2 -1:2 1:-2 0:3 -1:2").due("lastWords()", 3).due("playLast(0, false)", 2).then("-1:2 0:3");
    }

    /** What is told of the refused calls that throw for what an object holds; the others are in RefusedSentences. */
    private static void exceptions() {
        for (String words : new String[] {NOTHING, FIRST}) {
            Sentence s = Sentence.of(0, words);
            s.from("1:2 3:2").refuses("turn(0, 8)", "IndexOutOfBoundsException")
                    .refuses("turn(0, -1)", "IndexOutOfBoundsException")
                    .refuses("turn(0, 1)", "UnsupportedOperationException")
                    .refuses("order(0)", "UnsupportedOperationException")
                    .refuses("steps(0, 256)", "IllegalArgumentException")
                    .refuses("ring(0, -2)", "IllegalArgumentException")
                    .refuses("steps(0, 2)", "NoSuchElementException")
                    .refuses("ring(0, 2)", "NoSuchElementException")
                    .refuses("keyAt(8, 2)", "IndexOutOfBoundsException")
                    .refuses("keyAt(0, 2)", "NoSuchElementException")
                    .refuses("share(1)", "ArithmeticException");
            s.withRow("1:2 ".repeat(60)).refuses("say(256, 1)", "IllegalArgumentException")
                    .refuses("say(1, -2)", "IllegalArgumentException").refuses("unsay(-2)", "IllegalArgumentException")
                    .refuses("say(1, 1)", "IllegalStateException").refuses("unsay(1)", "IllegalStateException")
                    .refuses("undo()", "NoSuchElementException");
        }
    }
}
