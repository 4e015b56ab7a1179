/** Promises 31 to 38, following: rings, rows of keys that lead out of a map, and values that stand for two keys. */
final class FollowingSentences {
    private static final String UNSUPPORTED = "UnsupportedOperationException";
    private static final String ROUND = Given.all(key -> key == 255 ? -1 : key + 1);

    private FollowingSentences() {
    }

    static void check() {
        behind();
        turn();
        power();
        isInto();
        fixed();
        steps();
        ring();
        order();
        noOrder();
        greatOrders();
    }

    private static void behind() {
        String other = "-1:2 1:2 2:3 4:-1 5:9";
        String map = "-1:0 2:20 3:-1 8:8";
        Sentence.of(31, "Lets a slot become a map behind another one.").from(other, map).after("behind(0, 1, 2)")
                .then(other, map, "-1:20 1:20 2:-1 4:0").after("behind(1, 0, 2)").then(other, map, "3:2")
                .after("behind(0, 7, 2)").then(other, map).after("behind(7, 0, 2)").then(other, map)
                .after("behind(0, 0, 0)").then("-1:3 1:3 4:2", map).after("behind(0, 1, 1)")
                .then("-1:3 1:3 4:2", "-1:-1 1:-1 4:20").after("behind(0, 1, 0)").then("", "-1:-1 1:-1 4:20");
        Sentence.of(31, "Returns how many keys it has.").from(other, map).due("behind(0, 1, 2)", 4)
                .due("behind(1, 0, 2)", 1).due("behind(0, 7, 2)", 0).due("behind(7, 0, 2)", 0)
                .from(ROUND).due("behind(0, 0, 1)", 257);
    }

    private static void turn() {
        Sentence.of(32, "Lets a slot become a map turned round.").from("1:2 2:-1 -1:5 0:0").after("turn(0, 1)")
                .then("1:2 2:-1 -1:5 0:0", "-1:2 0:0 2:1 5:-1").after("turn(1, 1)")
                .then("1:2 2:-1 -1:5 0:0", "1:2 2:-1 -1:5 0:0").after("turn(7, 1)").then("1:2 2:-1 -1:5 0:0")
                .from("255:-1").after("turn(0, 0)").then("-1:255").after("turn(0, 0)").then("255:-1")
                .from(ROUND).after("turn(0, 0)").then(Given.all(key -> key == -1 ? 255 : key - 1));
        Sentence.of(32, "Returns how many keys it has.").from("1:2 2:-1 -1:5 0:0").due("turn(0, 1)", 4)
                .due("turn(7, 0)", 0).from("-1:-1").due("turn(0, 0)", 1).from(ROUND).due("turn(0, 1)", 257);
        Sentence s = Sentence.of(32, "Throws `UnsupportedOperationException` if a value stands for two keys");
        for (String map : new String[] {
            "3:4 4:4", "-1:-1 0:-1", "-1:0 255:0", "0:255 254:255 255:1", "1:5 2:6 3:7 4:5",
            Given.all(key -> Math.max(key, 0)), Given.all(key -> key == 255 ? 254 : key), Given.all(key -> -1),
        }) {
            s.from(map, "1:1").refuses("turn(0, 1)", UNSUPPORTED).refuses("turn(0, 0)", UNSUPPORTED);
        }
        s.from("3:4 4:4").after("take(0, 3)").due("turn(0, 1)", 1).then("4:4", "4:4");
        s.from("-1:-1 0:0").due("turn(0, 1)", 2);
        s.from("1:1 2:1").refuses("turn(0, 8)", "IndexOutOfBoundsException")
                .refuses("turn(0, -1)", "IndexOutOfBoundsException");
    }

    private static void power() {
        String map = "1:2 2:3 3:4 7:-1 -1:-1 9:1";
        Sentence.of(33, "Lets a slot become a power of a map.").from(map).after("power(0, 0, 1)")
                .then(map, "-1:-1 1:1 2:2 3:3 7:7 9:9").after("power(0, 1, 1)").then(map, map)
                .after("power(0, 2, 1)").then(map, "-1:-1 1:3 2:4 7:-1 9:2").after("power(0, 3, 1)")
                .then(map, "-1:-1 1:4 7:-1 9:3").after("power(0, 4, 1)").then(map, "-1:-1 7:-1 9:4")
                .after("power(0, 5, 1)").then(map, "-1:-1 7:-1").after("power(7, 0, 1)").then(map)
                .after("power(7, 1000, 1)").then(map).after("power(0, 1000, 0)").then("-1:-1 7:-1")
                .after("power(0, 0, 0)").then("-1:-1 7:7");
        Sentence turns = Sentence.of(33, "Lets a slot become a power of a map.");
        for (int exponent : new int[] {0, 1, 2, 255, 256, 257, 258, 513, 514, 999, 1000}) {
            turns.from(ROUND).after("power(0, " + exponent + ", 0)")
                    .then(Given.all(key -> (key + 1 + exponent) % 257 - 1));
        }
        Sentence s = Sentence.of(33, "Returns how many keys it has.").from(Given.keys(-1, 254, key -> key + 1));
        s.due("power(0, 0, 1)", 256);
        for (int exponent = 1; exponent <= 257; exponent++) {
            s.from(Given.keys(-1, 254, key -> key + 1)).due("power(0, " + exponent + ", 1)", 257 - exponent);
        }
        s.due("power(0, 258, 1)", 0).due("power(0, 1000, 1)", 0).due("power(7, 0, 1)", 0);
    }

    private static void isInto() {
        for (String words : new String[] {"Tells whether a map is into itself.", "Returns whether it is."}) {
            Sentence.of(34, words).from().due("isInto(0)", true).from("1:1").due("isInto(0)", true)
                    .from("1:2").due("isInto(0)", false).from("1:2 2:2").due("isInto(0)", true)
                    .from("1:-1").due("isInto(0)", false).from("1:-1 -1:1").due("isInto(0)", true)
                    .from("-1:-1").due("isInto(0)", true).from("-1:0").due("isInto(0)", false)
                    .from("1:2 2:1 3:255").due("isInto(0)", false).from("1:2 2:1 3:0").due("isInto(0)", false)
                    .from(Given.all(key -> 254 - key)).due("isInto(0)", true).after("take(0, 9)")
                    .due("isInto(0)", false).after("take(0, 245)").due("isInto(0)", true);
        }
    }

    private static void fixed() {
        for (String words : new String[] {"Returns how many keys have themselves as values.", "Returns how many."}) {
            Sentence.of(35, words).from().due("fixed(0)", 0).from("-1:-1").due("fixed(0)", 1)
                    .from("-1:0 0:-1").due("fixed(0)", 0).from("-1:-1 0:0 1:2 3:-1 255:255").due("fixed(0)", 3)
                    .from("1:2 2:1").due("fixed(0)", 0).from(Given.all(key -> key)).due("fixed(0)", 257)
                    .from(ROUND).due("fixed(0)", 0);
        }
    }

    private static final String WAYS =
            "1:2 2:3 3:4 4:2 10:11 11:12 20:-1 -1:-1 30:31 31:-1 40:40 50:0 0:255 255:0 60:50";

    private static void steps() {
        for (String words : new String[] {
            "Returns how many unlike keys one comes to, following a key, that itself among them.", "Returns how many.",
        }) {
            Sentence.of(36, words).from(WAYS).due("steps(0, 1)", 4).due("steps(0, 2)", 3).due("steps(0, 4)", 3)
                    .due("steps(0, 10)", 2).due("steps(0, 11)", 1).due("steps(0, 20)", 2).due("steps(0, -1)", 1)
                    .due("steps(0, 30)", 3).due("steps(0, 31)", 2).due("steps(0, 40)", 1).due("steps(0, 50)", 3)
                    .due("steps(0, 60)", 4).due("steps(0, 0)", 2).after("take(0, -1)").due("steps(0, 30)", 2)
                    .from(ROUND).due("steps(0, -1)", 257).due("steps(0, 9)", 257).after("put(0, 255, 255)")
                    .due("steps(0, -1)", 257).due("steps(0, 255)", 1).after("take(0, 255)").due("steps(0, -1)", 256)
                    .due("steps(0, 254)", 1);
        }
        noKey(36, "steps");
    }

    private static void ring() {
        for (String words : new String[] {
            "Returns how many keys the ring has to which one comes, following a key.",
            "Returns how many, 0 if one comes to none.",
        }) {
            Sentence.of(37, words).from(WAYS).due("ring(0, 1)", 3).due("ring(0, 2)", 3).due("ring(0, 4)", 3)
                    .due("ring(0, 10)", 0).due("ring(0, 11)", 0).due("ring(0, 20)", 1).due("ring(0, -1)", 1)
                    .due("ring(0, 30)", 1).due("ring(0, 31)", 1).due("ring(0, 40)", 1).due("ring(0, 50)", 2)
                    .due("ring(0, 60)", 2).due("ring(0, 0)", 2).after("take(0, -1)").due("ring(0, 30)", 0)
                    .from(ROUND).due("ring(0, -1)", 257).due("ring(0, 9)", 257).after("put(0, 255, 255)")
                    .due("ring(0, -1)", 1).due("ring(0, 255)", 1).after("take(0, 255)").due("ring(0, -1)", 0)
                    .due("ring(0, 254)", 0);
        }
        noKey(37, "ring");
    }

    private static void noKey(int promise, String name) {
        Sentence.of(promise, "Throws `NoSuchElementException` if it is no key of the map")
                .from("1:2 3:-1 4:0 5:255").refuses(name + "(0, 2)", "NoSuchElementException")
                .refuses(name + "(0, -1)", "NoSuchElementException").refuses(name + "(0, 0)", "NoSuchElementException")
                .refuses(name + "(0, 255)", "NoSuchElementException")
                .refuses(name + "(7, 1)", "NoSuchElementException")
                .refuses(name + "(7, -1)", "NoSuchElementException")
                .refuses(name + "(0, 256)", "IllegalArgumentException")
                .refuses(name + "(0, -2)", "IllegalArgumentException")
                .refuses(name + "(8, 2)", "IndexOutOfBoundsException");
    }

    private static void order() {
        Sentence least = Sentence.of(38, "Returns the order of a map: the least number above 0, such that its power of"
                + " this number has each key with itself.");
        String map = rings(5, 7, 9);
        // Following a key ahead leaves no trace that the order could find, nor the other way round.
        least.from(map).after("steps(0, 0)").after("ring(0, 5)").due("order(0)", 315).due("order(0)", 315)
                .due("steps(0, 0)", 5).due("ring(0, 5)", 7).after("order(0)").due("ring(0, 20)", "throws."
                        + "NoSuchElementException").due("steps(0, 19)", 9).due("order(0)", 315);
        least.from(map).due("order(0)", 315).after("power(0, 0, 1)").after("power(0, 315, 2)").due("isSame(1, 2)", true)
                .after("power(0, 630, 2)").due("isSame(1, 2)", true);
        for (int exponent = 1; exponent < 315; exponent++) {
            least.from(rings(5, 7, 9)).after("power(0, " + exponent + ", 1)").due("fixed(1)",
                    (exponent % 5 == 0 ? 5 : 0) + (exponent % 7 == 0 ? 7 : 0) + (exponent % 9 == 0 ? 9 : 0));
        }
        Sentence.of(38, "Returns the order, 1 without keys.").from().due("order(0)", 1).from("9:9").due("order(0)", 1)
                .from("-1:-1").due("order(0)", 1).from("-1:0 0:-1").due("order(0)", 2)
                .from("0:255 255:0").due("order(0)", 2).from(Given.all(key -> key)).due("order(0)", 1)
                .from(rings(4, 6)).due("order(0)", 12).from(rings(6, 4)).due("order(0)", 12)
                .from(rings(2, 3, 1)).due("order(0)", 6).from(ROUND).due("order(0)", 257);
    }

    private static void noOrder() {
        Sentence s = Sentence.of(38,
                "Throws `UnsupportedOperationException` if it is not into itself, or a value stands for two keys");
        for (String map : new String[] {
            "1:2", "1:-1", "-1:0", "1:2 2:2", "-1:-1 1:-1", "1:2 3:2", "1:2 2:1 3:255",
            Given.keys(-1, 254, key -> key + 1), Given.all(key -> key == 255 ? 0 : key + 1), Given.all(key -> 0),
        }) {
            s.from(map).refuses("order(0)", UNSUPPORTED);
        }
        s.from("1:2 2:2").after("put(0, 2, 1)").due("order(0)", 2);
    }

    private static String rings(int... lengths) {
        StringBuilder map = new StringBuilder();
        int start = -1;
        for (int length : lengths) {
            int first = start;
            map.append(Given.keys(first, first + length - 1, key -> first + (key - first + 1) % length)).append(' ');
            start += length;
        }
        return map.toString();
    }

    /** Orders beyond 32 bits, of maps with nearly all keys. */
    private static void greatOrders() {
        Sentence.of(38, "Returns the order, 1 without keys.")
                .from(rings(2, 3, 5, 7, 11, 13, 17, 19, 23, 29, 31, 37, 41)).due("order(0)", 304250263527210L)
                .from(rings(16, 9, 5, 7, 11, 13, 17, 19, 23, 29, 31, 37, 40)).due("order(0)",
                        16L * 9 * 5 * 7 * 11 * 13 * 17 * 19 * 23 * 29 * 31 * 37)
                .from(rings(4, 9, 5, 7, 11, 13, 17, 19, 23, 29, 31, 37, 41, 11)).due("order(0)",
                        6L * 304250263527210L);
    }
}
