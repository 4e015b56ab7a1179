/** The slots that are allowed, for each call and each place of an argument: 0 to 7, and each means itself alone. */
final class SlotSentences {
    private static final String SLOT = "`slot`: the slot, 0 to 7";
    private static final String A_SLOT = "`one`: a slot";
    private static final String ANOTHER_SLOT = "`other`: a slot";
    private static final String TO = "`to`: the slot that becomes it";
    private static final String MAP = "-1:-1 1:2 2:1 3:3";
    private static final String ELSEWHERE = "4:4 5:9";
    private static final String ONE = "-1:-1 1:2 2:1";
    private static final String OTHER = "1:2 2:9 3:-1";

    private SlotSentences() {
    }

    static void check() {
        writing();
        asking();
        followingAndFigures();
        comparing();
        becoming();
        mixing();
    }

    private static void writing() {
        one(2, "put(#, 1, 9)", 2, "-1:-1 1:9 2:1 3:3");
        one(3, "putFirst(#, -1, 9)", -1, "-1:9 1:2 2:1 3:3");
        one(4, "change(#, 2, 9)", 1, "-1:-1 1:2 2:9 3:3");
        one(5, "changeIf(#, 3, 3, 9)", true, "-1:-1 1:2 2:1 3:9");
        one(6, "take(#, 3)", 3, "-1:-1 1:2 2:1");
        one(7, "takeIf(#, 3, 3)", true, "-1:-1 1:2 2:1");
        one(8, "merge(#, 3, 3, '+')", 6, "-1:-1 1:2 2:1 3:6");
        one(9, "compute(#, 3, 'i')", 4, "-1:-1 1:2 2:1 3:4");
        one(10, "clear(#)", 4, "");
        one(23, "dropValue(#, 2)", 1, "-1:-1 2:1 3:3");
        one(24, "dropOdd(#)", 2, "-1:-1 1:2");
        one(25, "shift(#, 1)", 3, "-1:-1 1:3 2:2 3:4");
    }

    private static void asking() {
        one(11, "get(#, 3)", 3, MAP);
        one(12, "getOr(#, 4, 7)", 7, MAP);
        one(13, "has(#, 3)", true, MAP);
        one(14, "hasValue(#, 2)", true, MAP);
        one(15, "size(#)", 4, MAP);
        one(16, "kinds(#)", 4, MAP);
        one(17, "keyAt(#, 3)", 3, MAP);
        one(21, "hash(#)", 6, MAP);
        one(22, "keysHash(#)", 6, MAP);
    }

    private static void followingAndFigures() {
        one(34, "isInto(#)", true, MAP);
        one(35, "fixed(#)", 2, MAP);
        one(36, "steps(#, 1)", 2, MAP);
        one(37, "ring(#, 1)", 2, MAP);
        one(38, "order(#)", 2, MAP);
        one(47, "share(#)", 0.5f, MAP);
    }

    /** One slot holds the map, and all others another one, on which the call would answer or do something else. */
    private static void one(int promise, String call, Object want, String then) {
        Sentence s = Sentence.of(promise, SLOT);
        for (int slot = 0; slot < 8; slot++) {
            s.from(with(slot, MAP)).due(call.replace("#", "" + slot), want).then(with(slot, then));
        }
    }

    private static String[] with(int slot, String map) {
        String[] maps = new String[8];
        java.util.Arrays.fill(maps, ELSEWHERE);
        maps[slot] = map;
        return maps;
    }

    private static String[] with(int one, int other, int to, String then) {
        String[] maps = with(other, OTHER);
        maps[one] = ONE;
        if (to >= 0) {
            maps[to] = then;
        }
        return maps;
    }

    private static void comparing() {
        for (int one = 0; one < 8; one++) {
            for (int other = 0; other < 8; other++) {
                boolean isOne = one == other;
                compare(18, "isSame", one, other, isOne);
                compare(19, "areSameKeys", one, other, isOne);
                compare(20, "areSameValues", one, other, isOne);
            }
        }
    }

    private static void compare(int promise, String name, int one, int other, boolean want) {
        String call = name + "(" + one + ", " + other + ")";
        String[] same = with(one, ONE);
        same[other] = ONE;
        Sentence.of(promise, A_SLOT).from(with(one, other, -1, "")).due(call, want).from(same).due(call, true);
        Sentence.of(promise, ANOTHER_SLOT).from(with(one, other, -1, "")).due(call, want).from(same).due(call, true);
    }

    private static void becoming() {
        String ring = "-1:1 1:2 2:-1";
        String back = "-1:2 1:-1 2:1";
        for (int slot = 0; slot < 8; slot++) {
            one(43, "6:7", "play(#)", 1, "6:7", slot);
            one(44, "6:7", "playLast(#, false)", 1, "6:7", slot);
            one(44, "6:7 -1:7", "playLast(#, true)", 2, "-1:7 6:7", slot);
            for (int to = 0; to < 8; to++) {
                fromTo(26, "copy(" + slot + ", " + to + ")", ring, ring, slot, to);
                fromTo(32, "turn(" + slot + ", " + to + ")", ring, back, slot, to);
                fromTo(33, "power(" + slot + ", 2, " + to + ")", ring, back, slot, to);
            }
        }
    }

    private static void one(int promise, String row, String call, Object want, String then, int to) {
        Sentence.of(promise, TO).withRow(row, with(to, MAP)).due(call.replace("#", "" + to), want)
                .then(with(to, then));
    }

    private static void fromTo(int promise, String call, String map, String made, int slot, int to) {
        String[] then = with(slot, map);
        then[to] = made;
        Sentence.of(promise, SLOT).from(with(slot, map)).due(call, 3).then(then);
        Sentence.of(promise, TO).from(with(slot, map)).due(call, 3).then(then);
    }

    /** All that one, other and to can be, among it the same slot twice or three times. */
    private static void mixing() {
        for (int one = 0; one < 8; one++) {
            for (int other = 0; other < 8; other++) {
                for (int to = 0; to < 8; to++) {
                    mix(27, "join", one, other, to, one == other ? ONE : "-1:-1 1:2 2:9 3:-1");
                    mix(28, "less", one, other, to, one == other ? "" : "-1:-1");
                    mix(29, "common", one, other, to, one == other ? ONE : "1:2 2:1");
                    mix(30, "alike", one, other, to, one == other ? ONE : "1:2");
                    mix(31, "behind", one, other, to, one == other ? "-1:-1 1:1 2:2" : "1:9 2:2");
                }
            }
        }
    }

    private static void mix(int promise, String name, int one, int other, int to, String made) {
        String call = name + "(" + one + ", " + other + ", " + to + ")";
        int keys = made.isEmpty() ? 0 : made.split(" ").length;
        for (String words : slotWords(promise)) {
            Sentence.of(promise, words).from(with(one, other, -1, "")).due(call, keys)
                    .then(with(one, other, to, made));
        }
    }

    private static String[] slotWords(int promise) {
        switch (promise) {
            case 27:
                return new String[] {A_SLOT, ANOTHER_SLOT, TO};
            case 31:
                return new String[] {
                    "`one`: the slot of the other one", "`other`: that of the map that is put behind", TO,
                };
            default:
                return new String[] {"`one`: the slot of the map", "`other`: that of the other one", TO};
        }
    }
}
