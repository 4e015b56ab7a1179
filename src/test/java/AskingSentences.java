/** Promises 11 to 22, what is told of maps: without keys, with one, with all 257, and of the key and value none. */
final class AskingSentences {
    private static final String MAP = "-1:7 0:-1 5:7 255:0";

    private AskingSentences() {
    }

    static void check() {
        get();
        getOr();
        has();
        hasValue();
        size();
        kinds();
        keyAt();
        isSame();
        areSameKeys();
        areSameValues();
        hash();
        keysHash();
    }

    private static void get() {
        for (String words : new String[] {"Tells what a key has.", "Returns that."}) {
            Sentence s = Sentence.of(11, words);
            s.from(MAP).due("get(0, -1)", 7).due("get(0, 0)", -1).due("get(0, 5)", 7).due("get(0, 255)", 0)
                    .due("get(0, 1)", -2).due("get(0, 254)", -2).due("get(1, -1)", -2).then(MAP);
            s.from(Given.all(key -> 254 - key));
            for (int key = -1; key <= 250; key++) {
                s.due("get(0, " + key + ")", 254 - key);
            }
        }
    }

    private static void getOr() {
        Sentence.of(12, "Tells the value of a key, or another one for what is no key.").from(MAP)
                .due("getOr(0, 5, 9)", 7).due("getOr(0, 255, 9)", 0).due("getOr(0, 0, 9)", -1)
                .due("getOr(0, 1, 9)", 9).due("getOr(0, 1, 0)", 0).due("getOr(0, 1, 255)", 255)
                .due("getOr(1, -1, 9)", 9).then(MAP);
        Sentence.of(12, "Returns the value, -1 for none.").from(MAP).due("getOr(0, 0, 9)", -1)
                .due("getOr(0, 1, -1)", -1).due("getOr(0, -1, -1)", 7).due("getOr(1, -1, -1)", -1);
    }

    private static void has() {
        Sentence.of(13, "Tells whether the map has a key.").from(MAP).due("has(0, -1)", true).due("has(0, 0)", true)
                .due("has(0, 255)", true).due("has(0, 1)", false).due("has(0, 254)", false).due("has(1, -1)", false)
                .then(MAP);
        Sentence.of(13, "Returns whether it has.").from("-1:-1").due("has(0, -1)", true).due("has(0, 0)", false)
                .after("take(0, -1)").due("has(0, -1)", false);
    }

    private static void hasValue() {
        Sentence.of(14, "Tells whether some key has a value.").from(MAP).due("hasValue(0, 7)", true)
                .due("hasValue(0, -1)", true).due("hasValue(0, 0)", true).due("hasValue(0, 5)", false)
                .due("hasValue(0, 255)", false).due("hasValue(1, -1)", false).due("hasValue(1, 0)", false).then(MAP);
        Sentence.of(14, "Returns whether one has.").from("-1:255").due("hasValue(0, 255)", true)
                .due("hasValue(0, -1)", false).from("255:-1").due("hasValue(0, -1)", true)
                .due("hasValue(0, 255)", false).from(Given.all(key -> key == 255 ? 9 : 8)).due("hasValue(0, 9)", true)
                .due("hasValue(0, 7)", false);
    }

    private static void size() {
        for (String words : new String[] {"Returns how many keys there are.", "Returns how many."}) {
            Sentence s = Sentence.of(15, words).from().due("size(0)", 0);
            for (int key = -1; key <= 255; key++) {
                s.after("put(0, " + key + ", -1)");
                if (key < 200) {
                    s.due("size(0)", key + 2);
                }
            }
            s.due("size(0)", 257).after("put(0, 9, 9)").due("size(0)", 257).after("take(0, -1)").due("size(0)", 256)
                    .after("take(0, -1)").due("size(0)", 256);
        }
    }

    private static void kinds() {
        for (String words : new String[] {
            "Returns how many unlike values there are, none being one.", "Returns how many.",
        }) {
            Sentence.of(16, words).from(MAP).due("kinds(0)", 3).due("kinds(1)", 0).then(MAP)
                    .from("1:-1").due("kinds(0)", 1).from("1:-1 2:0").due("kinds(0)", 2)
                    .from("1:-1 2:-1 -1:-1").due("kinds(0)", 1).from("0:0 1:255 2:255").due("kinds(0)", 2)
                    .from(Given.all(key -> key)).due("kinds(0)", 257)
                    .from(Given.all(key -> 255)).due("kinds(0)", 1)
                    .from(Given.all(key -> Math.max(key, 0))).due("kinds(0)", 256);
        }
    }

    private static void keyAt() {
        for (String words : new String[] {"Returns a key, by their order.", "Returns the key."}) {
            Sentence.of(17, words).from("255:0 -1:9 5:7 0:-1").due("keyAt(0, 0)", -1).due("keyAt(0, 1)", 0)
                    .due("keyAt(0, 2)", 5).due("keyAt(0, 3)", 255).from("255:-1").due("keyAt(0, 0)", 255)
                    .from(Given.all(key -> 3)).due("keyAt(0, 0)", -1).due("keyAt(0, 1)", 0)
                    .due("keyAt(0, 256)", 255).due("keyAt(0, 255)", 254);
        }
        Sentence s = Sentence.of(17, "Throws `NoSuchElementException` if there is none");
        s.from(MAP).refuses("keyAt(0, 4)", "NoSuchElementException").refuses("keyAt(0, -1)", "NoSuchElementException")
                .refuses("keyAt(1, 0)", "NoSuchElementException").refuses("keyAt(1, -1)", "NoSuchElementException")
                .refuses("keyAt(0, 2147483647)", "NoSuchElementException")
                .refuses("keyAt(0, -2147483648)", "NoSuchElementException");
        s.from("7:7").refuses("keyAt(0, 1)", "NoSuchElementException");
        s.from(Given.all(key -> 3)).refuses("keyAt(0, 257)", "NoSuchElementException")
                .refuses("keyAt(0, 258)", "NoSuchElementException");
    }

    private static void isSame() {
        for (String words : new String[] {
            "Tells whether two maps are the same.", "Returns whether they have the same keys with the same values.",
        }) {
            Sentence s = Sentence.of(18, words);
            s.from(MAP, MAP).due("isSame(0, 1)", true).due("isSame(1, 0)", true).due("isSame(0, 0)", true)
                    .due("isSame(2, 3)", true).due("isSame(0, 2)", false).due("isSame(2, 0)", false).then(MAP, MAP);
            for (String other : new String[] {
                "0:-1 5:7 255:0", "-1:7 5:7 255:0", "-1:7 0:-1 5:7", "-1:7 0:0 5:7 255:0", "-1:7 0:-1 5:7 255:-1",
                "-1:7 0:-1 5:8 255:0", "-1:6 0:-1 5:7 255:0", "-1:7 0:-1 5:7 254:0", "-1:7 0:-1 1:-1 5:7 255:0",
            }) {
                s.from(MAP, other).due("isSame(0, 1)", false).due("isSame(1, 0)", false);
            }
            // Once these maps have been unlike, and one has been larger, they are the same again.
            s.from("1:2", "1:2").after("put(0, 3, 4)").due("isSame(0, 1)", false).after("take(0, 3)")
                    .due("isSame(0, 1)", true);
        }
    }

    private static void areSameKeys() {
        for (String words : new String[] {
            "Tells whether two maps have the same keys.", "Returns whether they have.",
        }) {
            Sentence s = Sentence.of(19, words);
            s.from(MAP, "-1:-1 0:0 5:5 255:255").due("areSameKeys(0, 1)", true).due("areSameKeys(1, 0)", true)
                    .due("areSameKeys(0, 0)", true).due("areSameKeys(2, 3)", true).due("areSameKeys(0, 2)", false)
                    .due("areSameKeys(2, 0)", false);
            for (String other : new String[] {
                "0:-1 5:7 255:0", "-1:7 5:7 255:0", "-1:7 0:-1 5:7", "-1:7 0:-1 5:7 254:0", "-1:7 0:-1 1:-1 5:7 255:0",
            }) {
                s.from(MAP, other).due("areSameKeys(0, 1)", false).due("areSameKeys(1, 0)", false);
            }
        }
    }

    private static void areSameValues() {
        for (String words : new String[] {
            "Tells whether two maps have the same values, each as often.", "Returns whether they have.",
        }) {
            Sentence s = Sentence.of(20, words);
            s.from(MAP, "1:0 2:7 3:-1 4:7").due("areSameValues(0, 1)", true).due("areSameValues(1, 0)", true)
                    .due("areSameValues(0, 0)", true).due("areSameValues(2, 3)", true)
                    .due("areSameValues(0, 2)", false).due("areSameValues(2, 0)", false);
            for (String other : new String[] {
                "1:0 2:7 3:-1", "1:0 2:7 3:-1 4:0", "1:0 2:7 3:-1 4:-1", "1:0 2:7 3:7 4:7", "1:0 2:7 3:-1 4:7 5:7",
                "1:255 2:7 3:-1 4:7", "1:0 2:7 3:0 4:7",
            }) {
                s.from(MAP, other).due("areSameValues(0, 1)", false).due("areSameValues(1, 0)", false);
            }
            // As many, and the same sum, but not the same ones.
            s.from("1:1 2:3", "1:2 2:2").due("areSameValues(0, 1)", false);
            s.from("1:-1", "1:0").due("areSameValues(0, 1)", false).due("areSameValues(0, 2)", false);
        }
    }

    private static void hash() {
        for (String words : new String[] {
            "Returns the hash of a map.", "Returns the sum, for each key, of the bits that just one of its number"
                    + " and the number of its value has, none being 0.",
        }) {
            Sentence.of(21, words).from(MAP).due("hash(0)", 7 + 0 + 2 + 255).due("hash(1)", 0).then(MAP)
                    .from("-1:-1").due("hash(0)", 0).from("-1:255").due("hash(0)", 255)
                    .from("255:-1").due("hash(0)", 255).from("255:255").due("hash(0)", 0)
                    .from("0:-1").due("hash(0)", 0).from("3:5").due("hash(0)", 6)
                    .from(Given.all(key -> key < 0 ? 255 : 255 - key)).due("hash(0)", 257 * 255)
                    .from(Given.all(key -> key)).due("hash(0)", 0)
                    .from(Given.all(key -> -1)).due("hash(0)", 32640);
        }
    }

    private static void keysHash() {
        for (String words : new String[] {
            "Returns the hash of the set of keys.", "Returns the sum of the keys, none being 0.",
        }) {
            Sentence.of(22, words).from(MAP).due("keysHash(0)", 260).due("keysHash(1)", 0).then(MAP)
                    .from("-1:-1").due("keysHash(0)", 0).from("-1:5 1:5").due("keysHash(0)", 1)
                    .from("255:0").due("keysHash(0)", 255).from(Given.all(key -> 9)).due("keysHash(0)", 32640);
        }
    }
}
