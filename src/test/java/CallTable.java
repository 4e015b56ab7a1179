import java.util.ArrayList;
import java.util.List;

/** Each call of the face, by its promise, with arguments that are allowed and what each of them is. */
final class CallTable {
    /**
     * What an argument is, by a sign: s slot, k key or value, m value of merge and number of shift, w way of merge,
     * c way of compute, i index, e exponent, z seed, n whether noisy.
     */
    record Entry(int promise, String name, String kinds, List<Object> arguments) {
        String told() {
            return Calls.told(name, arguments);
        }

        /** The same call with its keys and values counted from the greatest one down, 0 and none aside. */
        Entry mirrored() {
            Entry mirrored = this;
            for (int place = 0; place < kinds.length(); place++) {
                if (kinds.charAt(place) == 'k' && (int) arguments.get(place) > 0) {
                    mirrored = mirrored.with(place, 256 - (int) arguments.get(place));
                }
            }
            return mirrored;
        }

        /** The same call with another argument. */
        Entry with(int place, Object argument) {
            List<Object> others = new ArrayList<>(arguments);
            others.set(place, argument);
            return new Entry(promise, name, kinds, others);
        }
    }

    /** On these maps, and with this row, the calls of the table find what they are about, or just not. */
    static final String ROW = "1:2 3:-2 1:4";
    static final String[] MAPS = {"-1:-1 1:2 2:1 3:3", "5:6 7:-1", "3:4"};

    static final List<Entry> CALLS = new ArrayList<>();

    static {
        add(2, "put", "skk", "0 1 9", "0 9 9", "1 7 -1");
        add(3, "putFirst", "skk", "0 1 9", "0 9 9", "1 7 8");
        add(4, "change", "skk", "0 1 9", "0 9 9", "1 7 8");
        add(5, "changeIf", "skkk", "0 1 2 9", "0 1 3 9", "0 9 -1 9", "1 7 -1 8");
        add(6, "take", "sk", "0 1", "0 9", "1 7");
        add(7, "takeIf", "skk", "0 1 2", "0 1 3", "0 9 -1", "1 7 -1");
        add(8, "merge", "skmw", "0 1 9 +", "0 1 1 >", "0 1 9 x", "0 9 9 +", "1 7 8 x");
        add(9, "compute", "skc", "0 1 i", "0 1 d", "0 9 d", "0 9 f", "1 7 p", "0 1 p");
        add(10, "clear", "s", "0", "3");
        add(11, "get", "sk", "0 1", "0 9");
        add(12, "getOr", "skk", "0 1 9", "0 9 9");
        add(13, "has", "sk", "0 1", "0 9");
        add(14, "hasValue", "sk", "0 1", "0 9");
        add(15, "size", "s", "0", "3");
        add(16, "kinds", "s", "0", "3");
        add(17, "keyAt", "si", "0 0", "0 3");
        add(18, "isSame", "ss", "0 1", "0 0");
        add(19, "areSameKeys", "ss", "0 1", "0 0");
        add(20, "areSameValues", "ss", "0 1", "0 0");
        add(21, "hash", "s", "0", "3");
        add(22, "keysHash", "s", "0", "3");
        add(23, "dropValue", "sk", "0 1", "0 9");
        add(24, "dropOdd", "s", "0", "3");
        add(25, "shift", "sm", "0 1", "0 0", "3 1");
        add(26, "copy", "ss", "0 1", "1 1");
        addMixing();
        add(32, "turn", "ss", "0 1", "3 3");
        add(33, "power", "ses", "0 2 1", "0 0 0", "1 1000 1");
        add(34, "isInto", "s", "0", "1");
        add(35, "fixed", "s", "0", "3");
        add(36, "steps", "sk", "0 1", "1 5");
        add(37, "ring", "sk", "0 1", "1 5");
        add(38, "order", "s", "0", "3");
        add(39, "say", "kk", "1 9", "9 -1");
        add(40, "unsay", "k", "1", "9");
        add(41, "hush", "", "");
        add(42, "stir", "z", "7");
        add(43, "play", "s", "0", "3");
        add(44, "playLast", "sn", "0 false", "0 true");
        add(45, "lastWords", "", "");
        add(46, "undo", "", "");
        add(47, "share", "s", "0", "1");
        add(48, "meanSize", "", "");
        add(49, "checksum", "", "");
        add(50, "isSound", "", "");
    }

    private CallTable() {
    }

    private static void addMixing() {
        int promise = 27;
        for (String name : new String[] {"join", "less", "common", "alike", "behind"}) {
            add(promise++, name, "sss", "0 1 2", "0 2 0", "2 1 1", "0 0 0", "3 3 3");
        }
    }

    private static void add(int promise, String name, String kinds, String... rows) {
        for (String row : rows) {
            String[] texts = row.split(" ");
            List<Object> arguments = new ArrayList<>();
            for (int place = 0; place < kinds.length(); place++) {
                arguments.add(argument(kinds.charAt(place), texts[place]));
            }
            CALLS.add(new Entry(promise, name, kinds, arguments));
        }
    }

    private static Object argument(char kind, String text) {
        if (kind == 'w' || kind == 'c') {
            return text.charAt(0);
        }
        return kind == 'n' ? (Object) Boolean.valueOf(text) : (Object) Integer.valueOf(text);
    }

    /** The calls that make an object with these maps and this row. */
    static List<Entry> making() {
        List<Entry> making = new ArrayList<>();
        for (int slot = 0; slot < MAPS.length; slot++) {
            for (int[] pair : Given.pairs(MAPS[slot])) {
                making.add(new Entry(2, "put", "skk", List.of(slot, pair[0], pair[1])));
            }
        }
        for (int[] word : Given.pairs(ROW)) {
            boolean isTaking = word[1] == -2;
            making.add(isTaking ? new Entry(40, "unsay", "k", List.of(word[0]))
                    : new Entry(39, "say", "kk", List.of(word[0], word[1])));
        }
        return making;
    }

    /** The calls of writing and of cutting, and the others that let a slot become something. */
    static boolean doesKeep(Entry entry) {
        boolean isWriting = entry.promise() >= 2 && entry.promise() <= 10;
        boolean isCutting = entry.promise() >= 23 && entry.promise() <= 30;
        boolean isBecoming = List.of("behind", "turn", "power", "play", "playLast").contains(entry.name());
        return isWriting || isCutting || isBecoming;
    }

    /** Arguments of a kind that are refused: the first ones beside those that are allowed, and far ones. */
    static List<Object> refused(char kind) {
        switch (kind) {
            case 's':
                return List.of(-1, 8, -2, 9, Integer.MIN_VALUE, Integer.MAX_VALUE);
            case 'k':
                return List.of(-2, 256, -3, 257, Integer.MIN_VALUE, Integer.MAX_VALUE);
            case 'm':
                return List.of(-1, 256, -2, 257, Integer.MIN_VALUE, Integer.MAX_VALUE);
            case 'i':
                return List.of(-1, 257, Integer.MIN_VALUE, Integer.MAX_VALUE);
            case 'e':
                return List.of(-1, 1001, Integer.MIN_VALUE, Integer.MAX_VALUE);
            case 'z':
                return List.of(0, 2147483647, -1, Integer.MIN_VALUE);
            case 'w':
                return signsBeside("+>x");
            case 'c':
                return signsBeside("idfp");
            default:
                return List.of();
        }
    }

    private static List<Object> signsBeside(String ways) {
        List<Object> signs = new ArrayList<>();
        for (int sign = 0; sign < 400; sign++) {
            if (ways.indexOf(sign) < 0) {
                signs.add((char) sign);
            }
        }
        signs.add(Character.MAX_VALUE);
        return signs;
    }

    /** Arguments of a kind that are allowed: the first and the last one, and those beside them. */
    static List<Object> allowed(char kind) {
        switch (kind) {
            case 's':
                return List.of(0, 1, 6, 7);
            case 'k':
                return List.of(-1, 0, 1, 254, 255);
            case 'm':
                return List.of(0, 1, 254, 255);
            case 'i':
                return List.of(0, 1);
            case 'e':
                return List.of(0, 1, 2, 999, 1000);
            case 'z':
                return List.of(1, 2, 2147483645, 2147483646);
            case 'w':
                return List.of('+', '>', 'x');
            case 'c':
                return List.of('i', 'd', 'f', 'p');
            default:
                return List.of(false, true);
        }
    }

    /** The exception that an argument of this kind is refused with. */
    static String exceptionOf(char kind) {
        switch (kind) {
            case 's':
                return "IndexOutOfBoundsException";
            case 'i':
                return "NoSuchElementException";
            default:
                return "IllegalArgumentException";
        }
    }
}
