import java.util.List;

/** The keys, values and other numbers that are allowed, for each call: the first, the last, and all between them. */
final class NumberSentences {
    private static final String KEY = "`key`: the key";
    private static final String VALUE = "`value`: the value";
    private static final int LEAST = -1;
    private static final int MOST = 255;

    private NumberSentences() {
    }

    static void check() {
        keysOfWriting();
        otherKeys();
        values();
        words();
        exponents();
        indices();
        seeds();
    }

    private static void keysOfWriting() {
        each(2, KEY, "", "put(0, #, 5)", -2, "#:5");
        each(2, KEY, "#:4", "put(0, #, 5)", 4, "#:5");
        each(3, KEY, "", "putFirst(0, #, 5)", -2, "#:5");
        each(3, KEY, "#:-1", "putFirst(0, #, 5)", -1, "#:5");
        each(4, KEY, "#:4", "change(0, #, 5)", 4, "#:5");
        each(5, KEY, "#:4", "changeIf(0, #, 4, 5)", true, "#:5");
        each(6, KEY, "#:4", "take(0, #)", 4, "");
        each(7, KEY, "#:4", "takeIf(0, #, 4)", true, "");
        each(8, KEY, "#:4", "merge(0, #, 5, '+')", 9, "#:9");
        each(8, KEY, "#:4", "merge(0, #, 5, 'x')", -2, "");
        each(9, KEY, "#:4", "compute(0, #, 'i')", 5, "#:5");
        each(9, KEY, "#:4", "compute(0, #, 'p')", 8, "#:8");
    }

    private static void otherKeys() {
        each(11, KEY, "#:4", "get(0, #)", 4, "#:4");
        each(12, KEY, "#:4", "getOr(0, #, 5)", 4, "#:4");
        each(12, KEY, "", "getOr(0, #, 5)", 5, "");
        each(13, KEY, "#:4", "has(0, #)", true, "#:4");
        each(13, KEY, "", "has(0, #)", false, "");
        each(36, KEY, "#:#", "steps(0, #)", 1, "#:#");
        each(37, KEY, "#:#", "ring(0, #)", 1, "#:#");
    }

    private static void values() {
        each(2, VALUE, "", "put(0, 99, #)", -2, "99:#");
        each(3, VALUE, "", "putFirst(0, 99, #)", -2, "99:#");
        each(3, VALUE, "99:-1", "putFirst(0, 99, #)", -1, "99:#");
        each(4, VALUE, "99:4", "change(0, 99, #)", 4, "99:#");
        each(5, "`was`: the value that it must have", "99:#", "changeIf(0, 99, #, 4)", true, "99:4");
        each(5, VALUE, "99:4", "changeIf(0, 99, 4, #)", true, "99:#");
        each(7, VALUE, "99:#", "takeIf(0, 99, #)", true, "");
        each(12, VALUE, "", "getOr(0, 99, #)", "#", "");
        each(14, VALUE, "99:#", "hasValue(0, #)", true, "99:#");
        each(14, VALUE, "", "hasValue(0, #)", false, "");
        each(23, VALUE, "99:#", "dropValue(0, #)", 1, "");
        each(23, VALUE, "98:4 99:#", "dropValue(0, 4)", "4", 1, "99:#");
        each(8, "`value`: 0 to 255", 0, "", "merge(0, 99, #, '+')", "#", "99:#");
        each(8, "`value`: 0 to 255", 0, "99:0", "merge(0, 99, #, '>')", "#", "99:#");
        each(8, "`value`: 0 to 255", 0, "99:0", "merge(0, 99, #, 'x')", -2, "");
        Sentence by = Sentence.of(25, "`by`: 0 to 255");
        for (int number = 0; number <= 255; number++) {
            by.from("98:-1 99:0").due("shift(0, " + number + ")", number == 0 ? 0 : 1).then("98:-1 99:" + number);
        }
        by.from("99:0").refuses("shift(0, -1)", "IllegalArgumentException")
                .refuses("shift(0, 256)", "IllegalArgumentException");
    }

    private static void words() {
        for (int number = LEAST; number <= MOST; number++) {
            Sentence.of(39, KEY).from().due("say(" + number + ", 5)", 1).thenRow(number + ":5");
            Sentence.of(39, VALUE).from().due("say(5, " + number + ")", 1).thenRow("5:" + number);
            Sentence.of(40, KEY).from().due("unsay(" + number + ")", 1).thenRow(number + ":-2");
        }
    }

    private static void each(int promise, String words, String map, String call, Object want, String then) {
        each(promise, words, LEAST, map, call, want, then);
    }

    /** The same, but for one number, which is another case. */
    private static void each(int promise, String words, String map, String call, String beside, Object want,
            String then) {
        for (int number = LEAST; number <= MOST; number++) {
            if (number != Integer.parseInt(beside)) {
                one(promise, words, number, map, call, want, then);
            }
        }
    }

    private static void each(int promise, String words, int least, String map, String call, Object want,
            String then) {
        for (int number = least; number <= MOST; number++) {
            one(promise, words, number, map, call, want, then);
        }
    }

    private static void one(int promise, String words, int number, String map, String call, Object want,
            String then) {
        String text = "" + number;
        Sentence.of(promise, words).from(map.replace("#", text)).due(call.replace("#", text),
                String.valueOf(want).replace("#", text)).then(then.replace("#", text));
    }

    /** A ring of seven keys and a row of keys that leads out of the map, to each power. */
    private static void exponents() {
        Sentence s = Sentence.of(33, "`exponent`: 0 to 1000");
        String map = Given.keys(0, 6, key -> (key + 1) % 7) + " 20:21 21:22 22:-1 -1:23";
        int[] away = {20, 21, 22, -1, 23};
        for (int exponent = 0; exponent <= 1000; exponent++) {
            int times = exponent;
            StringBuilder made = new StringBuilder(Given.keys(0, 6, key -> (key + times) % 7));
            for (int place = 0; place < 4 && place + times <= 4; place++) {
                made.append(' ').append(away[place]).append(':').append(away[place + times]);
            }
            int keys = exponent == 0 ? 11 : 7 + Math.max(0, 5 - exponent);
            s.from(map).due("power(0, " + exponent + ", 1)", keys).then(map, made.toString());
        }
        s.from(map).refuses("power(0, -1, 1)", "IllegalArgumentException")
                .refuses("power(0, 1001, 1)", "IllegalArgumentException");
    }

    private static void indices() {
        Sentence s = Sentence.of(17, "`index`: its place, from 0");
        s.from("5:5 -1:0 255:1").due("keyAt(0, 0)", -1).due("keyAt(0, 1)", 5).due("keyAt(0, 2)", 255)
                .refuses("keyAt(0, -1)", "NoSuchElementException").refuses("keyAt(0, 3)", "NoSuchElementException");
    }

    private static void seeds() {
        Sentence s = Sentence.of(42, "`seed`: 1 to 2147483646");
        // 48271 and 182605794 leave 1 and 0, 1291394886 leaves 0.
        s.withRow("1:10 2:-2 3:30").due("stir(1)", 3).thenRow("1:10 3:30 2:-2");
        // 2147435376 leaves 0, 1964877853 leaves 1, 856088761 leaves 1.
        s.due("stir(2147483646)", 3).thenRow("3:30 1:10 2:-2");
        for (int seed : List.of(0, 2147483647, -1, Integer.MIN_VALUE)) {
            s.refuses("stir(" + seed + ")", "IllegalArgumentException");
        }
    }
}
