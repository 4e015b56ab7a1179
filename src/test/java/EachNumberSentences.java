/** Calls on whole maps, for each number as a key and as a value: none of them is passed over, the last ones neither. */
final class EachNumberSentences {
    private final int n;
    /** The number beside it. */
    private final int o;

    private EachNumberSentences(int number) {
        n = number;
        o = number == 255 ? -1 : number + 1;
    }

    static void check() {
        for (int number = -1; number <= 255; number++) {
            EachNumberSentences of = new EachNumberSentences(number);
            of.asking();
            of.comparing();
            of.cutting();
            of.mixing();
            of.following();
            of.goingRound();
            of.words();
            of.figures();
        }
    }

    private void asking() {
        Sentence.of(10, "Takes all keys away.").from(n + ":5").due("clear(0)", 1).then("");
        Sentence.of(14, "Tells whether some key has a value.").from(n + ":5").due("hasValue(0, 5)", true)
                .due("hasValue(0, 6)", false);
        Sentence.of(15, "Returns how many keys there are.").from(n + ":5").due("size(0)", 1)
                .from(n + ":5 " + o + ":5").due("size(0)", 2);
        Sentence.of(16, "Returns how many unlike values there are, none being one.").from(n + ":5").due("kinds(0)", 1)
                .from("5:" + n).due("kinds(0)", 1).from("5:" + n + " 6:" + o).due("kinds(0)", 2)
                .from("5:" + n + " 6:" + n).due("kinds(0)", 1).from(n + ":5 " + o + ":6").due("kinds(0)", 2);
        Sentence.of(17, "Returns a key, by their order.").from(n + ":5").due("keyAt(0, 0)", n)
                .from(n + ":5 " + o + ":5").due("keyAt(0, 0)", Math.min(n, o)).due("keyAt(0, 1)", Math.max(n, o));
        int sum = Math.max(n, 0);
        Sentence.of(21, "Returns the sum, for each key, of the bits that just one of its number and the number of its"
                + " value has, none being 0.").from(n + ":5").due("hash(0)", sum ^ 5).from("5:" + n)
                .due("hash(0)", sum ^ 5).from(n + ":-1").due("hash(0)", sum).from(n + ":" + n).due("hash(0)", 0);
        Sentence.of(22, "Returns the sum of the keys, none being 0.").from(n + ":5").due("keysHash(0)", sum)
                .from("5:" + n).due("keysHash(0)", 5).from(n + ":5 " + o + ":5")
                .due("keysHash(0)", sum + Math.max(o, 0));
    }

    private void comparing() {
        pair(18, "Tells whether two maps are the same.", "isSame", n + ":5", n + ":5", true);
        pair(18, "Tells whether two maps are the same.", "isSame", n + ":5", n + ":6", false);
        pair(18, "Tells whether two maps are the same.", "isSame", n + ":5", o + ":5", false);
        pair(18, "Tells whether two maps are the same.", "isSame", n + ":-1", "", false);
        pair(18, "Tells whether two maps are the same.", "isSame", "5:" + n, "5:" + o, false);
        pair(19, "Tells whether two maps have the same keys.", "areSameKeys", n + ":5", n + ":6", true);
        pair(19, "Tells whether two maps have the same keys.", "areSameKeys", n + ":5", o + ":5", false);
        pair(19, "Tells whether two maps have the same keys.", "areSameKeys", n + ":-1", "", false);
        String each = "Tells whether two maps have the same values, each as often.";
        pair(20, each, "areSameValues", "5:" + n, "6:" + n, true);
        pair(20, each, "areSameValues", n + ":5", o + ":5", true);
        pair(20, each, "areSameValues", "5:" + n, "5:" + o, false);
        pair(20, each, "areSameValues", "5:" + n, "", false);
        pair(20, each, "areSameValues", "5:" + n + " 6:" + n, "5:" + n, false);
        pair(20, each, "areSameValues", n + ":5 " + o + ":5", n + ":5", false);
    }

    private static void pair(int promise, String words, String name, String one, String other, boolean want) {
        Sentence.of(promise, words).from(one, other).due(name + "(0, 1)", want).due(name + "(1, 0)", want);
    }

    private void cutting() {
        Sentence.of(23, "Takes all keys with a value away.").from(n + ":5").due("dropValue(0, 6)", 0).then(n + ":5")
                .due("dropValue(0, 5)", 1).then("");
        Sentence.of(24, "Takes all keys with an odd value away").from(n + ":5").due("dropOdd(0)", 1).then("")
                .from(n + ":6").due("dropOdd(0)", 0).then(n + ":6");
        Sentence.of(25, "Adds a number to all values, none aside, less 256 if that is above 255.").from(n + ":5")
                .due("shift(0, 251)", 1).then(n + ":0").from(n + ":-1").due("shift(0, 251)", 0).then(n + ":-1");
        Sentence.of(26, "Lets a slot become a copy.").from(n + ":" + o).due("copy(0, 1)", 1)
                .then(n + ":" + o, n + ":" + o);
    }

    private void mixing() {
        mix(27, "a key of both has what the other one tells.", "join", n + ":6", 1);
        mix(28, "Lets a slot become a map without the keys of another one.", "less", "", 0);
        mix(29, "Lets a slot become a map with the keys alone that another one has, too.", "common", n + ":5", 1);
        String alike = "Lets a slot become a map with the keys alone that have the same value in another one.";
        mix(30, alike, "alike", "", 0);
        Sentence.of(27, "Lets a slot become two maps together").from(n + ":5", o + ":6").due("join(0, 1, 2)", 2)
                .then(n + ":5", o + ":6", n + ":5 " + o + ":6");
        Sentence.of(28, "Lets a slot become a map without the keys of another one.").from(n + ":5", o + ":5")
                .due("less(0, 1, 2)", 1).then(n + ":5", o + ":5", n + ":5");
        Sentence.of(29, "Lets a slot become a map with the keys alone that another one has, too.")
                .from(n + ":5", o + ":5").due("common(0, 1, 2)", 0).then(n + ":5", o + ":5");
        Sentence.of(30, alike).from(n + ":5", n + ":5").due("alike(0, 1, 2)", 1).then(n + ":5", n + ":5", n + ":5")
                .from("5:" + n, "5:" + o).due("alike(0, 1, 2)", 0).then("5:" + n, "5:" + o)
                .from("5:" + n, "5:" + n).due("alike(0, 1, 2)", 1).then("5:" + n, "5:" + n, "5:" + n);
    }

    private void mix(int promise, String words, String name, String made, int keys) {
        Sentence.of(promise, words).from(n + ":5", n + ":6").due(name + "(0, 1, 2)", keys)
                .then(n + ":5", n + ":6", made);
    }

    private void following() {
        Sentence behind = Sentence.of(31, "Lets a slot become a map behind another one.");
        behind.from(n + ":" + o, o + ":5").due("behind(0, 1, 2)", 1).then(n + ":" + o, o + ":5", n + ":5");
        behind.from(n + ":" + o, n + ":5").due("behind(0, 1, 2)", 0).then(n + ":" + o, n + ":5");
        Sentence.of(32, "Lets a slot become a map turned round.").from(n + ":" + o).due("turn(0, 1)", 1)
                .then(n + ":" + o, o + ":" + n);
        Sentence two = Sentence.of(32, "Throws `UnsupportedOperationException` if a value stands for two keys");
        two.from(n + ":5 " + o + ":5").due("turn(0, 1)", "throws.UnsupportedOperationException")
                .then(n + ":5 " + o + ":5").from("5:" + n + " 6:" + n)
                .due("turn(0, 1)", "throws.UnsupportedOperationException").then("5:" + n + " 6:" + n);
        Sentence power = Sentence.of(33, "Lets a slot become a power of a map.");
        power.from(n + ":" + o).due("power(0, 0, 1)", 1).then(n + ":" + o, n + ":" + n).due("power(0, 1, 1)", 1)
                .then(n + ":" + o, n + ":" + o).due("power(0, 2, 1)", 0).then(n + ":" + o);
        Sentence.of(34, "Tells whether a map is into itself.").from(n + ":" + n).due("isInto(0)", true)
                .from(n + ":" + o).due("isInto(0)", false).from(n + ":" + o + " " + o + ":" + o)
                .due("isInto(0)", true);
        Sentence.of(35, "Returns how many keys have themselves as values.").from(n + ":" + n).due("fixed(0)", 1)
                .from(n + ":" + o).due("fixed(0)", 0);
    }

    private void goingRound() {
        String two = n + ":" + o + " " + o + ":" + n;
        Sentence.of(33, "Lets a slot become a power of a map.").from(two).due("power(0, 2, 1)", 2)
                .then(two, n + ":" + n + " " + o + ":" + o);
        Sentence.of(36, "Returns how many unlike keys one comes to, following a key, that itself among them.")
                .from(two).due("steps(0, " + n + ")", 2).from(n + ":" + o).due("steps(0, " + n + ")", 1);
        Sentence.of(37, "Returns how many keys the ring has to which one comes, following a key.").from(two)
                .due("ring(0, " + n + ")", 2).from(n + ":" + o).due("ring(0, " + n + ")", 0);
        Sentence.of(38, "Returns the order, 1 without keys.").from(two).due("order(0)", 2).from(n + ":" + n)
                .due("order(0)", 1);
        Sentence.of(38, "Throws `UnsupportedOperationException` if it is not into itself, or a value stands for two"
                + " keys").from(n + ":" + o).due("order(0)", "throws.UnsupportedOperationException")
                .from(n + ":" + o + " " + o + ":" + o).due("order(0)", "throws.UnsupportedOperationException");
    }

    private void words() {
        Sentence.of(42, "the words k and k + 1, numbered from 0, change places, if both are there and of unlike keys.")
                .withRow(n + ":5 " + o + ":-2").due("stir(1)", 1).thenRow(o + ":-2 " + n + ":5")
                .withRow(n + ":5 " + n + ":-2").due("stir(1)", 0).thenRow(n + ":5 " + n + ":-2");
        Sentence.of(43, "Lets a slot become what the row is played to.").withRow(n + ":" + o).due("play(0)", 1)
                .then(n + ":" + o).withRow(n + ":5 " + n + ":-2").due("play(0)", 0).then("");
        for (boolean isNoisy : new boolean[] {false, true}) {
            Sentence.of(44, "`isNoisy`: whether so").withRow(n + ":-2 " + n + ":5 " + o + ":6")
                    .due("playLast(0, " + isNoisy + ")", 2).then(n + ":5 " + o + ":6")
                    .due("playLast(0, " + isNoisy + ")", 2).then(n + ":5 " + o + ":6")
                    .withRow(o + ":6 " + n + ":5 " + n + ":-2").due("playLast(0, " + isNoisy + ")", 1).then(o + ":6");
        }
        Sentence.of(45, "Returns how many last words the row has.").withRow(n + ":5 " + o + ":5 " + n + ":5")
                .due("lastWords()", 2).after("playLast(0, false)").due("lastWords()", 2);
    }

    private void figures() {
        Sentence.of(46, "Lets the slot of the latest call that is kept hold the map that it held ahead.")
                .from(n + ":" + o).after("clear(0)").due("undo()", 0).then(n + ":" + o).due("undo()", 0).then("");
        Sentence.of(47, "Returns the share of keys that have themselves.").from(n + ":" + n).due("share(0)", 1.0f)
                .from(n + ":" + o).due("share(0)", 0.0f).from(n + ":" + n + " " + o + ":" + n).due("share(0)", 0.5f);
        Sentence.of(48, "Returns the mean size of the maps.").from(n + ":5").due("meanSize()", 0.125);
        Sentence.of(50, "Returns whether all of this is so.").from(n + ":" + o, o + ":" + n).due("isSound()", true);
    }
}
