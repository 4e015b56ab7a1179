/** Promises 46 to 50, figures: of new objects, of full ones, and of what was undone. */
final class FiguresSentences {
    private FiguresSentences() {
    }

    static void check() {
        undo();
        share();
        meanSize();
        checksum();
        checksumOfWords();
        isSound();
    }

    private static void undo() {
        Sentence gives = Sentence.of(46,
                "Lets the slot of the latest call that is kept hold the map that it held ahead.");
        gives.from("1:1 2:2", "-1:-1").after("undo()").then("1:1 2:2", "").after("undo()").then("1:1")
                .after("put(7, 255, 255)").then("1:1", "", "", "", "", "", "", "255:255").after("undo()").then("1:1")
                .after("undo()").then("");
        gives.from("1:1", "2:2 3:3").after("turn(1, 0)").after("clear(1)").then("2:2 3:3", "").after("undo()")
                .then("2:2 3:3", "2:2 3:3").after("undo()").then("1:1", "2:2 3:3");
        // What was undone is not kept itself, and what is written then stands in its place.
        gives.from("1:1").after("put(0, 1, 2)").after("put(0, 1, 3)").after("undo()").then("1:2")
                .after("put(0, 1, 4)").then("1:4").after("undo()").then("1:2").after("undo()").then("1:1")
                .after("undo()").then("");
        Sentence.of(46, "Returns the slot.").after("clear(7)").after("clear(0)").after("clear(3)").due("undo()", 3)
                .due("undo()", 0).due("undo()", 7).due("undo()", "throws.NoSuchElementException");
        Sentence none = Sentence.of(46, "Throws `NoSuchElementException` if none is kept");
        none.refuses("undo()", "NoSuchElementException").withRow("1:2").refuses("undo()", "NoSuchElementException");
        none.from("1:1").due("undo()", 0).due("undo()", "throws.NoSuchElementException").then("")
                .due("undo()", "throws.NoSuchElementException").after("put(0, 1, 1)").due("undo()", 0).then("");
        none.from("1:1 2:2 3:3 4:4 5:5 6:6 7:7 8:8");
        for (int back = 0; back < 8; back++) {
            none.due("undo()", 0);
        }
        none.due("undo()", "throws.NoSuchElementException").then("");
    }

    private static void share() {
        Sentence.of(47, "Returns the share of keys that have themselves.").from("1:2 2:1").due("share(0)", 0.0f)
                .from("-1:-1 3:5").due("share(0)", 0.5f).from("255:255").due("share(0)", 1.0f)
                .from("-1:0 0:-1").due("share(0)", 0.0f);
        Sentence s = Sentence.of(47, "Returns how many have, divided by how many keys there are,"
                + " both converted to float.");
        for (int keys = 1; keys <= 257; keys++) {
            for (int fixed : new int[] {0, 1, keys / 3, keys - 1, keys}) {
                if (keys % 16 == 1 || keys < 12) {
                    int last = fixed - 2;
                    s.from(Given.keys(-1, keys - 2, key -> key <= last ? key : key == 7 ? 8 : 7))
                            .due("share(0)", (float) fixed / (float) keys);
                }
            }
        }
        Sentence.of(47, "Throws `ArithmeticException` if there are none").from().refuses("share(0)",
                "ArithmeticException").from("", "1:1").refuses("share(0)", "ArithmeticException")
                .due("share(1)", 1.0f).after("take(1, 1)").due("share(1)", "throws.ArithmeticException")
                .refuses("share(8)", "IndexOutOfBoundsException").refuses("share(-1)", "IndexOutOfBoundsException");
    }

    private static void meanSize() {
        for (String words : new String[] {
            "Returns the mean size of the maps.",
            "Returns the sum of their sizes divided by 8, both converted to double.",
        }) {
            Sentence s = Sentence.of(48, words).due("meanSize()", 0.0);
            for (int slot = 0; slot < 8; slot++) {
                s.after("put(" + slot + ", -1, -1)").due("meanSize()", (slot + 1) / 8.0);
            }
            s.from("1:1 2:2 3:3", "", "4:4").due("meanSize()", 0.5);
            s.from(Given.all(key -> key)).due("meanSize()", 32.125);
            for (int slot = 1; slot < 8; slot++) {
                s.after("copy(0, " + slot + ")").due("meanSize()", (slot + 1) * 257 / 8.0);
            }
        }
    }

    private static long sum(int... parts) {
        long sum = 7;
        for (int part : parts) {
            sum = 31 * sum + part;
        }
        return sum;
    }

    private static void checksum() {
        for (String words : new String[] {
            "Returns a sum over all.", "Returns 7 at first, then 31 times itself plus each of: for each slot how many"
                    + " keys it has, and, by their order, each key and its value",
        }) {
            Sentence s = Sentence.of(49, words);
            s.due("checksum()", sum(0, 0, 0, 0, 0, 0, 0, 0, 0)).from("5:6").due("checksum()",
                    sum(1, 5, 6, 0, 0, 0, 0, 0, 0, 0, 0));
            s.from("255:0 -1:-1 0:255", "", "3:-1").due("checksum()",
                    sum(3, -1, -1, 0, 255, 255, 0, 0, 1, 3, -1, 0, 0, 0, 0, 0, 0));
            s.from("", "", "", "", "", "", "", "-1:255").due("checksum()", sum(0, 0, 0, 0, 0, 0, 0, 1, -1, 255, 0));
        }
        Sentence round = Sentence.of(49, "a long that goes round.");
        for (int value : new int[] {-1, 0, 128, 255}) {
            String all = Given.all(key -> value);
            round.from(all).then(all).after("copy(0, 7)").after("copy(0, 3)").then(all, "", "", all, "", "", "", all);
        }
    }

    private static void checksumOfWords() {
        Sentence s = Sentence.of(49, "how many words there are, and for each one its key, and its value,"
                + " -2 for one that takes away");
        s.withRow("7:-2").due("checksum()", sum(0, 0, 0, 0, 0, 0, 0, 0, 1, 7, -2));
        s.withRow("-1:-1").due("checksum()", sum(0, 0, 0, 0, 0, 0, 0, 0, 1, -1, -1));
        s.withRow("9:8 -1:-2 255:0 9:-1", "5:6").due("checksum()",
                sum(1, 5, 6, 0, 0, 0, 0, 0, 0, 0, 4, 9, 8, -1, -2, 255, 0, 9, -1));
        s.withRow("1:2 ".repeat(60)).thenRow("1:2 ".repeat(60)).after("hush()").due("checksum()",
                sum(0, 0, 0, 0, 0, 0, 0, 0, 0));
    }

    /** The theorem holds as long as all else does: true is the only answer, for whatever an object holds. */
    private static void isSound() {
        for (String words : new String[] {
            "Checks the theorem for what there is: each map beside one that is made anew, by falling keys",
            "the row beside its last words", "each two maps that are the same by their hashes and sets",
            "each map that can be turned round.", "Returns whether all of this is so.",
        }) {
            Sentence s = Sentence.of(50, words);
            String all = Given.all(key -> 254 - key);
            s.due("isSound()", true).then();
            s.withRow("1:2 1:-2 3:-1 -1:5 ".repeat(15), all, "1:1 2:1", "-1:-1", "1:1 2:1").due("isSound()", true)
                    .then(all, "1:1 2:1", "-1:-1", "1:1 2:1").due("undo()", 3).due("isSound()", true);
            s.from("-1:0 0:-1", "0:-1 -1:0", "255:0", Given.all(key -> 3)).due("isSound()", true)
                    .after("turn(2, 2)").due("isSound()", true).after("copy(3, 0)").due("isSound()", true);
            s.withRow("1:2", "1:1").after("isSound()").due("undo()", 0).due("undo()",
                    "throws.NoSuchElementException").then("");
        }
    }
}
