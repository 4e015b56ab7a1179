/** Promises 23 to 30, cutting by views: nothing to cut, all cut, none as a value, sums that go round, itself. */
final class CuttingSentences {
    private static final String ONE = "-1:-1 1:10 2:-1 3:30 4:41";
    private static final String OTHER = "-1:-1 2:20 3:30 5:-1";

    private CuttingSentences() {
    }

    static void check() {
        dropValue();
        dropOdd();
        shift();
        copy();
        join();
        less();
        common();
        alike();
    }

    private static void dropValue() {
        Sentence.of(23, "Takes all keys with a value away.")
                .from(ONE, ONE).after("dropValue(0, -1)").then("1:10 3:30 4:41", ONE)
                .after("dropValue(0, 1)").then("1:10 3:30 4:41", ONE).after("dropValue(0, 30)")
                .then("1:10 4:41", ONE).from("-1:0 0:0 1:-1 255:0").after("dropValue(0, 0)").then("1:-1")
                .from("-1:255 0:254 255:255").after("dropValue(0, 255)").then("0:254")
                .from(Given.all(key -> -1)).after("dropValue(0, -1)").then("");
        Sentence.of(23, "Returns how many.").from(ONE).due("dropValue(0, -1)", 2).due("dropValue(0, -1)", 0)
                .due("dropValue(0, 3)", 0).due("dropValue(0, 41)", 1).due("dropValue(1, -1)", 0)
                .from(Given.all(key -> 255)).due("dropValue(0, 0)", 0).due("dropValue(0, -1)", 0)
                .due("dropValue(0, 255)", 257).due("dropValue(0, 255)", 0);
    }

    private static void dropOdd() {
        Sentence odd = Sentence.of(24, "Takes all keys with an odd value away");
        for (int value = 0; value <= 255; value++) {
            odd.from("-1:" + value + " 3:" + value + " 4:2").due("dropOdd(0)", value % 2 == 1 ? 2 : 0)
                    .then(value % 2 == 1 ? "4:2" : "-1:" + value + " 3:" + value + " 4:2");
        }
        Sentence.of(24, "none is not odd.").from("-1:-1 1:-1 2:1").due("dropOdd(0)", 1).then("-1:-1 1:-1")
                .due("dropOdd(0)", 0).then("-1:-1 1:-1");
        Sentence.of(24, "Returns how many.").from(ONE, "1:1 2:255 3:3").due("dropOdd(0)", 1).due("dropOdd(0)", 0)
                .due("dropOdd(1)", 3).due("dropOdd(1)", 0).due("dropOdd(7)", 0).then("-1:-1 1:10 2:-1 3:30")
                .from(Given.all(key -> 255)).due("dropOdd(0)", 257).from(Given.all(key -> key)).due("dropOdd(0)", 128);
    }

    private static void shift() {
        Sentence wraps = Sentence.of(25, "Adds a number to all values, none aside, less 256 if that is above 255.");
        for (int by = 0; by <= 255; by++) {
            int with = by;
            String made = "-1:" + by % 256 + " 0:" + (by + 1) % 256 + " 1:-1 2:" + (by + 128) % 256 + " 3:"
                    + (by + 254) % 256 + " 255:" + (by + 255) % 256;
            wraps.from("-1:0 0:1 1:-1 2:128 3:254 255:255", "1:1").after("shift(0, " + with + ")").then(made, "1:1");
        }
        wraps.from("1:255").after("shift(0, 1)").then("1:0").after("shift(0, 255)").then("1:255")
                .after("shift(0, 255)").then("1:254").after("shift(0, 1)").then("1:255").from("1:-1")
                .after("shift(0, 1)").then("1:-1");
        Sentence.of(25, "Returns how many values are others then.").from(ONE).due("shift(0, 0)", 0)
                .due("shift(0, 1)", 3).due("shift(0, 255)", 3).then(ONE).due("shift(1, 255)", 0)
                .from("1:-1").due("shift(0, 9)", 0).from(Given.all(key -> 7)).due("shift(0, 0)", 0)
                .due("shift(0, 128)", 257);
    }

    private static void copy() {
        Sentence.of(26, "Lets a slot become a copy.").from(ONE, OTHER).after("copy(0, 1)").then(ONE, ONE)
                .after("put(1, 1, 9)").then(ONE, "-1:-1 1:9 2:-1 3:30 4:41").after("put(0, 6, 6)")
                .then(ONE + " 6:6", "-1:-1 1:9 2:-1 3:30 4:41").after("copy(7, 0)")
                .then("", "-1:-1 1:9 2:-1 3:30 4:41").after("copy(1, 1)").then("", "-1:-1 1:9 2:-1 3:30 4:41")
                .from(Given.all(key -> key)).after("copy(0, 1)").then(Given.all(key -> key), Given.all(key -> key));
        Sentence.of(26, "Returns how many keys it has.").from(ONE, OTHER, "-1:-1").due("copy(1, 0)", 4)
                .due("copy(2, 0)", 1).due("copy(7, 0)", 0).due("copy(7, 7)", 0).due("copy(1, 1)", 4)
                .from(Given.all(key -> -1)).due("copy(0, 1)", 257).due("copy(1, 1)", 257);
    }

    private static void join() {
        Sentence.of(27, "Lets a slot become two maps together").from(ONE, OTHER).after("join(0, 1, 2)")
                .then(ONE, OTHER, "-1:-1 1:10 2:20 3:30 4:41 5:-1").after("join(0, 7, 2)").then(ONE, OTHER, ONE)
                .after("join(7, 1, 2)").then(ONE, OTHER, OTHER).after("join(6, 7, 2)").then(ONE, OTHER)
                .after("join(0, 0, 0)").then(ONE, OTHER);
        Sentence.of(27, "a key of both has what the other one tells.").from("-1:0 1:1 2:-1 255:5", "-1:-1 1:2 2:3 0:0")
                .after("join(0, 1, 2)").after("join(1, 0, 3)").then("-1:0 1:1 2:-1 255:5", "-1:-1 1:2 2:3 0:0",
                        "-1:-1 0:0 1:2 2:3 255:5", "-1:0 0:0 1:1 2:-1 255:5")
                .from(ONE, OTHER).after("join(0, 1, 1)").then(ONE, "-1:-1 1:10 2:20 3:30 4:41 5:-1")
                .from(ONE, OTHER).after("join(0, 1, 0)").then("-1:-1 1:10 2:20 3:30 4:41 5:-1", OTHER)
                .from(ONE, OTHER).after("join(1, 0, 0)").then("-1:-1 1:10 2:-1 3:30 4:41 5:-1", OTHER);
        Sentence.of(27, "Returns how many keys it has.").from(ONE, OTHER).due("join(0, 1, 2)", 6)
                .due("join(0, 7, 2)", 5).due("join(7, 1, 2)", 4).due("join(6, 7, 2)", 0).due("join(1, 1, 1)", 4)
                .from(Given.keys(-1, 127, key -> 1), Given.keys(128, 255, key -> 2)).due("join(0, 1, 2)", 257)
                .due("join(2, 0, 2)", 257);
    }

    private static void less() {
        Sentence.of(28, "Lets a slot become a map without the keys of another one.").from(ONE, OTHER)
                .after("less(0, 1, 2)").then(ONE, OTHER, "1:10 4:41").after("less(1, 0, 2)").then(ONE, OTHER, "5:-1")
                .after("less(0, 7, 2)").then(ONE, OTHER, ONE).after("less(7, 0, 2)").then(ONE, OTHER)
                .after("less(0, 1, 1)").then(ONE, "1:10 4:41").after("less(0, 1, 0)")
                .then("-1:-1 2:-1 3:30", "1:10 4:41").after("less(0, 0, 0)").then("", "1:10 4:41");
        Sentence.of(28, "Returns how many keys it has.").from(ONE, OTHER).due("less(0, 1, 2)", 2)
                .due("less(1, 0, 2)", 1).due("less(0, 7, 2)", 5).due("less(7, 0, 2)", 0).due("less(0, 0, 2)", 0)
                .from(Given.all(key -> 1), "5:5").due("less(0, 2, 3)", 257).due("less(0, 1, 3)", 256)
                .due("less(1, 0, 3)", 0);
    }

    private static void common() {
        Sentence.of(29, "Lets a slot become a map with the keys alone that another one has, too.").from(ONE, OTHER)
                .after("common(0, 1, 2)").then(ONE, OTHER, "-1:-1 2:-1 3:30").after("common(1, 0, 2)")
                .then(ONE, OTHER, "-1:-1 2:20 3:30").after("common(0, 7, 2)").then(ONE, OTHER)
                .after("common(7, 0, 2)").then(ONE, OTHER).after("common(0, 0, 2)").then(ONE, OTHER, ONE)
                .after("common(0, 1, 1)").then(ONE, "-1:-1 2:-1 3:30", ONE).after("common(2, 1, 2)")
                .then(ONE, "-1:-1 2:-1 3:30", "-1:-1 2:-1 3:30");
        Sentence.of(29, "Returns how many keys it has.").from(ONE, OTHER).due("common(0, 1, 2)", 3)
                .due("common(1, 0, 2)", 3).due("common(0, 7, 2)", 0).due("common(7, 0, 2)", 0)
                .due("common(0, 0, 2)", 5).from(Given.all(key -> 1), "5:5").due("common(0, 0, 2)", 257)
                .due("common(0, 1, 2)", 1).due("common(1, 0, 2)", 1);
    }

    private static void alike() {
        Sentence.of(30, "Lets a slot become a map with the keys alone that have the same value in another one.")
                .from(ONE, OTHER).after("alike(0, 1, 2)").then(ONE, OTHER, "-1:-1 3:30").after("alike(1, 0, 2)")
                .then(ONE, OTHER, "-1:-1 3:30").after("alike(0, 7, 2)").then(ONE, OTHER).after("alike(7, 0, 2)")
                .then(ONE, OTHER).after("alike(0, 0, 2)").then(ONE, OTHER, ONE).after("alike(0, 1, 1)")
                .then(ONE, "-1:-1 3:30", ONE)
                // None is a value, and neither 0 nor what is no key.
                .from("1:-1 2:0 3:-1 -1:0", "1:-1 2:-1 -1:-1").after("alike(0, 1, 2)")
                .then("1:-1 2:0 3:-1 -1:0", "1:-1 2:-1 -1:-1", "1:-1");
        Sentence.of(30, "Returns how many keys it has.").from(ONE, OTHER).due("alike(0, 1, 2)", 2)
                .due("alike(1, 0, 2)", 2).due("alike(0, 7, 2)", 0).due("alike(7, 0, 2)", 0).due("alike(0, 0, 2)", 5)
                .from(Given.all(key -> 1), "5:5 6:1").due("alike(0, 0, 2)", 257).due("alike(0, 1, 2)", 1);
    }
}
