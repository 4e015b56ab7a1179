/** Promises 1 to 10, what is written and returned: no key, none, 0 and 255, and sums that go round. */
final class WritingSentences {
    private static final String MAP = "-1:255 0:-1 1:10 255:0";

    private WritingSentences() {
    }

    static void check() {
        newObject();
        put();
        putFirst();
        change();
        changeIf();
        take();
        takeIf();
        merge();
        mergeWays();
        compute();
        computeMore();
        computeTwice();
        clear();
    }

    private static void newObject() {
        Sentence s = Sentence.of(1, "Creates eight maps without keys, and no words.");
        for (int slot = 0; slot < 8; slot++) {
            s.from().due("size(" + slot + ")", 0).due("keyAt(" + slot + ", 0)", "throws.NoSuchElementException");
            for (int key = -1; key <= 255; key++) {
                s.due("has(" + slot + ", " + key + ")", false);
            }
            s.then();
        }
        s.from().due("lastWords()", 0).due("hush()", 0).due("meanSize()", 0.0).due("undo()",
                "throws.NoSuchElementException").then();
        Keywright one = Given.object("1:2", "1:2");
        s.holds("another object has maps and words of its own", new Keywright().checksum(), Given.sum(""));
        s.holds("and what another one writes is not seen", one.checksum(), Given.sum("1:2", "1:2"));
    }

    private static void put() {
        Sentence.of(2, "Writes a value for a key.")
                .from(MAP).after("put(0, 1, 11)").then("-1:255 0:-1 1:11 255:0")
                .after("put(0, -1, -1)").then("-1:-1 0:-1 1:11 255:0")
                .after("put(0, 0, 0)").then("-1:-1 0:0 1:11 255:0")
                .after("put(0, 255, 255)").then("-1:-1 0:0 1:11 255:255")
                .after("put(0, 254, -1)").then("-1:-1 0:0 1:11 254:-1 255:255");
        Sentence.of(2, "Returns what the key had.").from(MAP).due("put(0, -1, 1)", 255).due("put(0, 0, 1)", -1)
                .due("put(0, 1, 1)", 10).due("put(0, 255, 1)", 0).due("put(0, 2, 1)", -2).due("put(0, 2, -1)", 1)
                .due("put(0, 2, -1)", -1).due("put(1, -1, -1)", -2).due("put(1, -1, -1)", -1);
    }

    private static void putFirst() {
        Sentence.of(3, "Writes a value for a key that is no key of the map, or has none.")
                .from(MAP).after("putFirst(0, -1, 7)").after("putFirst(0, 1, 7)").after("putFirst(0, 255, 7)")
                .then(MAP).after("putFirst(0, 0, 7)").then("-1:255 0:7 1:10 255:0")
                .after("putFirst(0, 2, -1)").then("-1:255 0:7 1:10 2:-1 255:0")
                .after("putFirst(0, 2, 8)").then("-1:255 0:7 1:10 2:8 255:0")
                .after("putFirst(1, -1, -1)").then("-1:255 0:7 1:10 2:8 255:0", "-1:-1")
                .after("putFirst(1, -1, 0)").then("-1:255 0:7 1:10 2:8 255:0", "-1:0")
                .after("putFirst(1, -1, 1)").then("-1:255 0:7 1:10 2:8 255:0", "-1:0");
        Sentence.of(3, "Returns what the key had.").from(MAP).due("putFirst(0, -1, 1)", 255)
                .due("putFirst(0, 0, 1)", -1).due("putFirst(0, 0, 2)", 1).due("putFirst(0, 255, 1)", 0)
                .due("putFirst(0, 2, 1)", -2).due("putFirst(0, 2, 2)", 1).due("putFirst(1, -1, -1)", -2)
                .due("putFirst(1, -1, -1)", -1);
    }

    private static void change() {
        Sentence.of(4, "Writes a value for a key of the map.")
                .from(MAP).after("change(0, 1, 11)").then("-1:255 0:-1 1:11 255:0")
                .after("change(0, 0, 0)").then("-1:255 0:0 1:11 255:0")
                .after("change(0, 255, -1)").then("-1:255 0:0 1:11 255:-1")
                .after("change(0, -1, -1)").then("-1:-1 0:0 1:11 255:-1");
        Sentence.of(4, "Returns what the key had").from(MAP).due("change(0, -1, 1)", 255).due("change(0, 0, 1)", -1)
                .due("change(0, 0, 1)", 1).due("change(0, 255, 1)", 0);
        Sentence.of(4, "-2, and nothing is written.").from(MAP).due("change(0, 2, 1)", -2).then(MAP)
                .due("change(0, 254, -1)", -2).then(MAP).due("change(1, -1, -1)", -2).then(MAP);
    }

    private static void changeIf() {
        Sentence.of(5, "Writes a value for a key of the map that has a told one.")
                .from(MAP).after("changeIf(0, 1, 10, 11)").then("-1:255 0:-1 1:11 255:0")
                .after("changeIf(0, 1, 10, 12)").then("-1:255 0:-1 1:11 255:0")
                .after("changeIf(0, 0, 0, 12)").then("-1:255 0:-1 1:11 255:0")
                .after("changeIf(0, 0, -1, 12)").then("-1:255 0:12 1:11 255:0")
                .after("changeIf(0, 255, -1, 12)").then("-1:255 0:12 1:11 255:0")
                .after("changeIf(0, 255, 0, -1)").then("-1:255 0:12 1:11 255:-1")
                .after("changeIf(0, 2, -1, 1)").then("-1:255 0:12 1:11 255:-1")
                .after("changeIf(1, -1, -1, -1)").then("-1:255 0:12 1:11 255:-1");
        Sentence.of(5, "Returns whether it had that.").from(MAP).due("changeIf(0, 1, 10, 11)", true)
                .due("changeIf(0, 1, 10, 11)", false).due("changeIf(0, 1, 11, 11)", true)
                .due("changeIf(0, 0, 0, 1)", false).due("changeIf(0, 0, -1, 1)", true)
                .due("changeIf(0, 255, -1, 1)", false).due("changeIf(0, 255, 0, 1)", true)
                .due("changeIf(0, 2, -1, 1)", false).due("changeIf(1, -1, -1, 1)", false);
    }

    private static void take() {
        Sentence.of(6, "Takes a key away.").from(MAP).after("take(0, 1)").then("-1:255 0:-1 255:0")
                .after("take(0, 1)").then("-1:255 0:-1 255:0").after("take(0, -1)").then("0:-1 255:0")
                .after("take(0, 0)").then("255:0").after("take(0, 255)").then("").after("take(0, 255)").then("");
        Sentence.of(6, "Returns what it had.").from(MAP).due("take(0, 1)", 10).due("take(0, 1)", -2)
                .due("take(0, -1)", 255).due("take(0, -1)", -2).due("take(0, 0)", -1).due("take(0, 0)", -2)
                .due("take(0, 255)", 0).due("take(0, 255)", -2);
    }

    private static void takeIf() {
        Sentence.of(7, "Takes a key away that has a told value.").from(MAP).after("takeIf(0, 1, 11)").then(MAP)
                .after("takeIf(0, 0, 0)").then(MAP).after("takeIf(0, 255, -1)").then(MAP)
                .after("takeIf(0, 1, 10)").then("-1:255 0:-1 255:0").after("takeIf(0, 0, -1)").then("-1:255 255:0")
                .after("takeIf(0, 255, 0)").then("-1:255").after("takeIf(0, -1, 255)").then("");
        Sentence.of(7, "Returns whether it had that.").from(MAP).due("takeIf(0, 1, 11)", false)
                .due("takeIf(0, 1, 10)", true).due("takeIf(0, 1, 10)", false).due("takeIf(0, 1, -1)", false)
                .due("takeIf(0, 0, 0)", false).due("takeIf(0, 0, -1)", true).due("takeIf(0, 255, -1)", false)
                .due("takeIf(0, 255, 0)", true).due("takeIf(1, -1, -1)", false);
    }

    private static void merge() {
        Sentence s = Sentence.of(8, "a key that is no key of the map, or has none, gets it");
        for (char how : "+>x".toCharArray()) {
            for (int value : new int[] {0, 1, 255}) {
                String call = ", " + value + ", '" + how + "')";
                s.from(MAP).due("merge(0, 0" + call, value).then("-1:255 0:" + value + " 1:10 255:0");
                s.from(MAP).due("merge(0, 2" + call, value).then(MAP + " 2:" + value);
                s.from().due("merge(0, -1" + call, value).then("-1:" + value);
            }
        }
        Sentence.of(8, "another one what is made of both.").from("-1:255 1:10 255:0")
                .due("merge(0, 1, 3, '+')", 13).due("merge(0, -1, 3, '>')", 255).due("merge(0, 255, 3, '+')", 3)
                .then("-1:255 1:13 255:3").due("merge(0, 255, 3, 'x')", -2).then("-1:255 1:13");
        Sentence.of(8, "Returns what the key has then.").from(MAP).due("merge(0, 1, 1, '+')", 11).due("get(0, 1)", 11)
                .due("merge(0, 1, 1, '>')", 11).due("merge(0, 1, 1, 'x')", -2).due("get(0, 1)", -2)
                .due("merge(0, 1, 1, 'x')", 1).due("get(0, 1)", 1);
        for (String how : new String[] {"'*'", "','", "'='", "'?'", "'w'", "'y'", "'X'", "'i'", "(char) 0"}) {
            for (int key : new int[] {0, 1, 2}) {
                Sentence.of(8, "or there is no such way").from(MAP)
                        .refuses("merge(0, " + key + ", 1, " + how + ")", "IllegalArgumentException");
            }
        }
    }

    private static void mergeWays() {
        Sentence sum = Sentence.of(8, "'+' the sum, less 256 if it is above 255");
        for (int had : new int[] {0, 1, 2, 127, 128, 254, 255}) {
            for (int value = 0; value <= 255; value++) {
                int due = had + value > 255 ? had + value - 256 : had + value;
                sum.from("1:" + had).due("merge(0, 1, " + value + ", '+')", due).then("1:" + due);
            }
        }
        Sentence.of(8, "'>' the greater one").from("1:10").due("merge(0, 1, 9, '>')", 10)
                .due("merge(0, 1, 10, '>')", 10).due("merge(0, 1, 11, '>')", 11).due("merge(0, 1, 0, '>')", 11)
                .due("merge(0, 1, 255, '>')", 255).then("1:255").due("merge(0, 1, 254, '>')", 255).then("1:255")
                .from("1:0").due("merge(0, 1, 0, '>')", 0).then("1:0").due("merge(0, 1, 1, '>')", 1).then("1:1");
        Sentence.of(8, "'x' the key is taken away").from("-1:4 1:0 2:255").due("merge(0, 1, 0, 'x')", -2)
                .then("-1:4 2:255").due("merge(0, 2, 255, 'x')", -2).then("-1:4").due("merge(0, -1, 3, 'x')", -2)
                .then("");
    }

    private static void compute() {
        Sentence.of(9, "Works out what a key has anew.").from(MAP).due("compute(0, 1, 'i')", 11)
                .then("-1:255 0:-1 1:11 255:0").due("compute(0, 255, 'd')", -2).then("-1:255 0:-1 1:11");
        Sentence more = Sentence.of(9, "'i' 1 more, 0 for 255, and 0 for none and what is no key");
        for (int had = 0; had <= 255; had++) {
            int due = had == 255 ? 0 : had + 1;
            more.from("1:" + had).due("compute(0, 1, 'i')", due).then("1:" + due);
        }
        more.from("1:-1").due("compute(0, 1, 'i')", 0).then("1:0").due("compute(0, 2, 'i')", 0).then("1:0 2:0")
                .due("compute(0, -1, 'i')", 0).then("-1:0 1:0 2:0").due("compute(0, -1, 'i')", 1).then("-1:1 1:0 2:0");
        Sentence less = Sentence.of(9, "'d' 1 less, but 0, none, and what is no key is taken away");
        for (int had = 1; had <= 255; had++) {
            less.from("1:" + had).due("compute(0, 1, 'd')", had - 1).then("1:" + (had - 1));
        }
        less.from("1:0 2:-1 3:3").due("compute(0, 1, 'd')", -2).then("2:-1 3:3").due("compute(0, 2, 'd')", -2)
                .then("3:3").due("compute(0, 1, 'd')", -2).due("compute(0, -1, 'd')", -2).then("3:3");
        less.from("-1:1").due("compute(0, -1, 'd')", 0).then("-1:0").due("compute(0, -1, 'd')", -2).then("");
    }

    private static void computeMore() {
        Sentence fill = Sentence.of(9,
                "'f' where none is, or no key, the number of the key, 0 if that is none, others stay");
        for (int key = -1; key <= 255; key++) {
            int due = key == -1 ? 0 : key;
            fill.from().due("compute(0, " + key + ", 'f')", due).then(key + ":" + due);
            fill.from(key + ":-1").due("compute(0, " + key + ", 'f')", due).then(key + ":" + due);
            fill.from(key + ":0").due("compute(0, " + key + ", 'f')", 0).then(key + ":0");
            fill.from(key + ":255").due("compute(0, " + key + ", 'f')", 255).then(key + ":255");
        }
        Sentence.of(9, "Returns what the key has then.").from(MAP).due("compute(0, 1, 'd')", 9).due("get(0, 1)", 9)
                .due("compute(0, 0, 'p')", -1).due("get(0, 0)", -1).due("compute(0, 255, 'd')", -2)
                .due("get(0, 255)", -2).due("compute(0, 255, 'f')", 255).due("get(0, 255)", 255);
        for (String how : new String[] {"'h'", "'j'", "'c'", "'e'", "'g'", "'o'", "'q'", "'I'", "'+'", "(char) 0"}) {
            for (int key : new int[] {0, 1, 2}) {
                Sentence.of(9, "or there is no such way").from(MAP)
                        .refuses("compute(0, " + key + ", " + how + ")", "IllegalArgumentException");
            }
        }
    }

    private static void computeTwice() {
        Sentence twice = Sentence.of(9, "'p' twice as much, less 256 if it is above 255");
        for (int had = 1; had <= 255; had++) {
            int due = 2 * had > 255 ? 2 * had - 256 : 2 * had;
            twice.from("1:" + had).due("compute(0, 1, 'p')", due).then("1:" + due);
        }
        Sentence.of(9, "but 0 is taken away, and none, and what is no key, stays").from("1:0 2:-1 3:3")
                .due("compute(0, 1, 'p')", -2).then("2:-1 3:3").due("compute(0, 1, 'p')", -2).then("2:-1 3:3")
                .due("compute(0, 2, 'p')", -1).then("2:-1 3:3").due("compute(0, -1, 'p')", -2).then("2:-1 3:3")
                .from("-1:-1").due("compute(0, -1, 'p')", -1).then("-1:-1");
    }

    private static void clear() {
        Sentence.of(10, "Takes all keys away.").from(MAP, MAP).after("clear(0)").then("", MAP).after("clear(0)")
                .then("", MAP).from(Given.all(key -> key)).after("clear(0)").then("").from("-1:-1").after("clear(0)")
                .then("");
        Sentence.of(10, "Returns how many there were.").from(MAP, "-1:-1").due("clear(0)", 4).due("clear(0)", 0)
                .due("clear(1)", 1).due("clear(7)", 0).from(Given.all(key -> -1)).due("clear(0)", 257)
                .due("size(0)", 0);
    }
}
