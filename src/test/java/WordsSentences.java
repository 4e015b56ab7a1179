import java.math.BigInteger;
import java.util.ArrayList;
import java.util.Collections;
import java.util.List;
import java.util.StringJoiner;

/** Promises 39 to 45, the row of words: empty, with 60 of them, stirred, and played in two orders. */
final class WordsSentences {
    private WordsSentences() {
    }

    static void check() {
        say();
        unsay();
        hush();
        stirChanges();
        stirNumbers();
        play();
        playLast();
        noise();
        lastWords();
    }

    private static String row(int words) {
        StringJoiner row = new StringJoiner(" ");
        for (int word = 0; word < words; word++) {
            row.add(word % 7 - 1 + ":" + (word % 3 == 0 ? -2 : word));
        }
        return row.toString();
    }

    private static void say() {
        Sentence.of(39, "Puts a word behind the row: to write.").withRow("", "1:1").after("say(1, 2)").thenRow("1:2")
                .after("say(1, 2)").thenRow("1:2 1:2").after("say(-1, -1)").thenRow("1:2 1:2 -1:-1")
                .after("say(255, 0)").thenRow("1:2 1:2 -1:-1 255:0").after("say(0, 255)")
                .thenRow("1:2 1:2 -1:-1 255:0 0:255");
        Sentence s = Sentence.of(39, "Returns how many there are.");
        for (int count = 1; count <= 60; count++) {
            s.due("say(5, -1)", count);
        }
        Sentence full = Sentence.of(39, "Throws `IllegalStateException` if there are 60");
        full.withRow(row(59), "1:1").due("say(1, 2)", 60).thenRow(row(59) + " 1:2");
        full.withRow(row(60), "1:1").refuses("say(1, 2)", "IllegalStateException")
                .refuses("say(256, 2)", "IllegalArgumentException").refuses("say(1, -2)", "IllegalArgumentException")
                .due("hush()", 60).due("say(1, 2)", 1);
    }

    private static void unsay() {
        Sentence.of(40, "Puts a word behind the row: to take away.").withRow("", "1:1").after("unsay(1)")
                .thenRow("1:-2").after("unsay(1)").thenRow("1:-2 1:-2").after("unsay(-1)").thenRow("1:-2 1:-2 -1:-2")
                .after("unsay(255)").thenRow("1:-2 1:-2 -1:-2 255:-2");
        Sentence s = Sentence.of(40, "Returns how many there are.");
        for (int count = 1; count <= 60; count++) {
            s.due("unsay(5)", count);
        }
        Sentence full = Sentence.of(40, "Throws `IllegalStateException` if there are 60");
        full.withRow(row(59), "1:1").due("unsay(1)", 60).thenRow(row(59) + " 1:-2");
        full.withRow(row(60), "1:1").refuses("unsay(1)", "IllegalStateException")
                .refuses("unsay(256)", "IllegalArgumentException").refuses("unsay(-2)", "IllegalArgumentException")
                .due("hush()", 60).due("unsay(1)", 1);
    }

    private static void hush() {
        Sentence.of(41, "Takes all words away.").withRow(row(60), "1:1").after("hush()").thenRow("")
                .due("lastWords()", 0).due("play(7)", 0).after("hush()").thenRow("").withRow("1:2", "1:1")
                .after("hush()").thenRow("").after("say(3, 4)").thenRow("3:4");
        Sentence.of(41, "Returns how many there were.").due("hush()", 0).withRow(row(60)).due("hush()", 60)
                .due("hush()", 0).withRow("1:-2").due("hush()", 1);
    }

    /** The words as the document has them behind a call of stir, told with numbers of any length. */
    private static int stirred(List<String> words, int seed) {
        BigInteger z = BigInteger.valueOf(seed);
        int changes = 0;
        for (int times = 0; times < words.size(); times++) {
            z = z.multiply(BigInteger.valueOf(48271)).mod(BigInteger.valueOf(2147483647));
            int k = z.mod(BigInteger.valueOf(words.size())).intValue();
            if (k + 1 < words.size() && !keyOf(words.get(k)).equals(keyOf(words.get(k + 1)))) {
                Collections.swap(words, k, k + 1);
                changes++;
            }
        }
        return changes;
    }

    private static String keyOf(String word) {
        return word.substring(0, word.indexOf(':'));
    }

    private static void stirChanges() {
        Sentence as = Sentence.of(42, "as often as there are words, z becomes 48271 times z modulo 2147483647,"
                + " the seed at first");
        // The rests of z are 2, 3, 4, 2 and 0; behind word 4 there is none.
        as.withRow("1:11 2:12 3:13 4:14 5:15").due("stir(7)", 4).thenRow("2:12 1:11 5:15 4:14 3:13");
        for (int words = 0; words <= 60; words++) {
            for (int seed : new int[] {1, 2, 7, 48271, 1000000007, 2147483645, 2147483646}) {
                List<String> due = new ArrayList<>(words == 0 ? List.of() : List.of(row(words).split(" ")));
                int changes = stirred(due, seed);
                as.withRow(row(words)).due("stir(" + seed + ")", changes).thenRow(String.join(" ", due));
            }
        }
        Sentence both = Sentence.of(42, "the words k and k + 1, numbered from 0, change places,"
                + " if both are there and of unlike keys.");
        both.from().due("stir(5)", 0).thenRow("").withRow("1:2").due("stir(5)", 0).thenRow("1:2");
        // 48271 leaves 1, where the second word has none behind it, and 182605794 leaves 0.
        both.withRow("1:2 3:-2").due("stir(1)", 1).thenRow("3:-2 1:2");
        both.withRow("1:2 1:-2").due("stir(1)", 0).thenRow("1:2 1:-2");
        both.withRow("-1:2 -1:-2").due("stir(1)", 0).thenRow("-1:2 -1:-2");
        both.withRow("-1:2 0:2").due("stir(1)", 1).thenRow("0:2 -1:2");
    }

    private static void stirNumbers() {
        Sentence stays = Sentence.of(42,
                "Puts the words into another order, in which those of one key stand as ahead");
        for (int seed = 1; seed <= 200; seed++) {
            String row = "1:1 2:1 1:2 -1:3 1:-2 2:-2 -1:4 1:5 2:6 -1:-2 1:7 255:1";
            stays.withRow(row).due("play(0)", 3).after("stir(" + seed + ")").due("play(1)", 3)
                    .due("isSame(0, 1)", true).due("lastWords()", 4);
            stays.withRow("4:9 4:8 4:7 4:-2").due("stir(" + seed + ")", 0).thenRow("4:9 4:8 4:7 4:-2");
        }
        Sentence.of(42, "with k, the rest of z by how many words there are").withRow("1:1 2:2 3:3 4:4")
                // The rests of z are 3, 2, 2 and 1.
                .due("stir(1)", 3).thenRow("1:1 3:3 2:2 4:4");
        Sentence.of(42, "Returns how many changes were made.").due("stir(9)", 0).withRow("1:1").due("stir(9)", 0)
                .withRow("1:1 1:2").due("stir(9)", 0).withRow("1:10 2:20 3:30").due("stir(1)", 3);
    }

    private static void play() {
        Sentence.of(43, "Lets a slot become what the row is played to.")
                .withRow("1:2 -1:-1 1:-2 5:-2 3:0 3:4", "9:9", "8:8").after("play(0)").then("-1:-1 3:4", "8:8")
                .after("say(1, 7)").thenRow("1:2 -1:-1 1:-2 5:-2 3:0 3:4 1:7").after("play(1)")
                .then("-1:-1 3:4", "-1:-1 1:7 3:4").withRow("", "9:9").after("play(0)").then("")
                .withRow("9:-2", "9:9").after("play(0)").then("").withRow(row(60), "9:9").after("play(0)")
                .then("-1:56 1:58 2:59 3:53 5:55");
        Sentence s = Sentence.of(43, "Returns how many keys it has.").due("play(0)", 0).withRow("9:-2")
                .due("play(0)", 0).withRow("9:-1 -1:0 9:1").due("play(0)", 2);
        s.withRow(Given.keys(-1, 58, key -> key)).due("play(7)", 60).due("play(7)", 60);
        s.withRow("9:1 ".repeat(60)).due("play(7)", 1);
    }

    private static void playLast() {
        Sentence lets = Sentence.of(44, "Lets a slot become what the last words are played to,"
                + " from the last one on to the first one");
        for (boolean isNoisy : new boolean[] {false, true}) {
            String call = "playLast(0, " + isNoisy + ")";
            lets.withRow("", "9:9", "8:8").after(call).then("", "8:8");
            lets.withRow("1:2 1:-2 2:-1 40:2 -1:5 -1:6 31:0 32:-2", "9:9").after(call)
                    .then("-1:6 2:-1 31:0 40:2");
            lets.withRow(row(60), "9:9").after(call).then("-1:56 1:58 2:59 3:53 5:55");
            lets.withRow("1:-2 1:2", "1:9").after(call).then("1:2").withRow("1:2 1:-2", "1:9").after(call).then("");
            Sentence.of(44, "Returns how many keys it has.").due(call, 0).withRow("9:-2").due(call, 0)
                    .withRow("9:-1 -1:0 9:1").due(call, 2).withRow(Given.keys(-1, 58, key -> -1)).due(call, 60)
                    .withRow("9:1 ".repeat(60)).due(call, 1);
            Sentence.of(44, "`isNoisy`: whether so").withRow(row(60)).after("play(1)").after(call)
                    .due("isSame(0, 1)", true).then("-1:56 1:58 2:59 3:53 5:55",
                            "-1:56 1:58 2:59 3:53 5:55");
        }
    }

    /** Keys at both ends of those that are made noisy, and beside them, with all that a key can have. */
    private static void noise() {
        Sentence s = Sentence.of(44, "noisy, each ahead of being done writes none for the keys 0 to 31,"
                + " and takes away those of them that were no keys, and gives the others their values again.");
        int[] keys = {-1, 0, 1, 15, 16, 30, 31, 32, 255};
        for (int key : keys) {
            for (int other : keys) {
                for (int value : new int[] {-1, 0, 31, 255}) {
                    if (key != other) {
                        String both = key + ":" + value + " " + other + ":" + (255 - Math.max(value, 0));
                        s.withRow(both + " 5:-2", "5:5").due("playLast(0, true)", 2).then(both);
                        s.withRow("5:-2 " + both, "5:5").due("playLast(0, true)", 2).then(both);
                    }
                }
            }
        }
        String all = Given.keys(-1, 58, key -> key % 3 == 0 ? -1 : key);
        s.withRow(all).due("playLast(0, true)", 60).then(all);
    }

    private static void lastWords() {
        for (String words : new String[] {"Returns how many last words the row has.", "Returns how many."}) {
            Sentence s = Sentence.of(45, words).due("lastWords()", 0).withRow("1:1 1:-2").due("lastWords()", 1)
                    .withRow("1:-2").due("lastWords()", 1).withRow("1:1 1:-2 2:2 -1:-1 1:1").due("lastWords()", 3)
                    .due("lastWords()", 3).thenRow("1:1 1:-2 2:2 -1:-1 1:1")
                    .withRow("-1:1 0:1 255:1 254:1").due("lastWords()", 4);
            s.withRow(Given.keys(-1, 58, key -> 7)).due("lastWords()", 60);
            s.withRow(Given.keys(196, 255, key -> -2)).due("lastWords()", 60);
            s.withRow("255:9 ".repeat(60)).due("lastWords()", 1).after("hush()").due("lastWords()", 0);
        }
    }
}
