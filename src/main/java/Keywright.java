import java.util.Arrays;
import java.util.NoSuchElementException;

/** Eight maps of small numbers, a row of words, and the maps that the latest calls wrote over. */
public final class Keywright {
    private static final int SLOTS = 8;
    private static final int NONE = -1;
    private static final int ABSENT = -2;
    private static final int TOP = 255;
    private static final int NUMBERS = 257;
    private static final int MOST_WORDS = 60;
    private static final int MOST_KEPT = 8;
    private static final int MOST_EXPONENT = 1000;
    private static final int NOISY_KEYS = 32;
    private static final int DIVISOR_STEPS = 200;
    private static final long STIR_FACTOR = 48271L;
    private static final long STIR_MODULUS = 2147483647L;

    private final Table[] maps = new Table[SLOTS];
    private final Row row = new Row();
    private final Past past = new Past();
    private final Walk walk = new Walk();
    // Rooms to work in, made once: what a call makes anew is never given back.
    private final Table draft = new Table();
    private final Table second = new Table();
    private final Table third = new Table();
    private final int[] tally = new int[NUMBERS];

    public Keywright() {
        for (int slot = 0; slot < SLOTS; slot++) {
            maps[slot] = new Table();
        }
    }

    // Writing

    public int put(int slot, int key, int value) throws IndexOutOfBoundsException, IllegalArgumentException {
        checkSlot(slot);
        checkNumber(key);
        checkNumber(value);
        Table map = openToWrite(slot);
        int had = map.at(key);
        map.mark(key, value);
        return had;
    }

    public int putFirst(int slot, int key, int value) throws IndexOutOfBoundsException, IllegalArgumentException {
        checkSlot(slot);
        checkNumber(key);
        checkNumber(value);
        Table map = openToWrite(slot);
        int had = map.at(key);
        if (had == ABSENT || had == NONE) {
            map.mark(key, value);
        }
        return had;
    }

    public int change(int slot, int key, int value) throws IndexOutOfBoundsException, IllegalArgumentException {
        checkSlot(slot);
        checkNumber(key);
        checkNumber(value);
        Table map = openToWrite(slot);
        int had = map.at(key);
        if (had != ABSENT) {
            map.mark(key, value);
        }
        return had;
    }

    public boolean changeIf(int slot, int key, int was, int value)
            throws IndexOutOfBoundsException, IllegalArgumentException {
        checkSlot(slot);
        checkNumber(key);
        checkNumber(was);
        checkNumber(value);
        Table map = openToWrite(slot);
        boolean isSo = map.at(key) == was;
        if (isSo) {
            map.mark(key, value);
        }
        return isSo;
    }

    public int take(int slot, int key) throws IndexOutOfBoundsException, IllegalArgumentException {
        checkSlot(slot);
        checkNumber(key);
        Table map = openToWrite(slot);
        int had = map.at(key);
        map.mark(key, ABSENT);
        return had;
    }

    public boolean takeIf(int slot, int key, int value) throws IndexOutOfBoundsException, IllegalArgumentException {
        checkSlot(slot);
        checkNumber(key);
        checkNumber(value);
        Table map = openToWrite(slot);
        boolean isSo = map.at(key) == value;
        if (isSo) {
            map.mark(key, ABSENT);
        }
        return isSo;
    }

    public int merge(int slot, int key, int value, char how)
            throws IndexOutOfBoundsException, IllegalArgumentException {
        checkSlot(slot);
        checkNumber(key);
        checkRange(value, 0, TOP);
        checkWay(how == '+' || how == '>' || how == 'x');
        Table map = openToWrite(slot);
        map.mark(key, merged(map.at(key), value, how));
        return map.at(key);
    }

    public int compute(int slot, int key, char how) throws IndexOutOfBoundsException, IllegalArgumentException {
        checkSlot(slot);
        checkNumber(key);
        checkWay(how == 'i' || how == 'd' || how == 'f' || how == 'p');
        Table map = openToWrite(slot);
        map.mark(key, computed(map.at(key), key, how));
        return map.at(key);
    }

    public int clear(int slot) throws IndexOutOfBoundsException {
        checkSlot(slot);
        Table map = openToWrite(slot);
        int had = map.count;
        map.wipe();
        return had;
    }

    // Asking

    public int get(int slot, int key) throws IndexOutOfBoundsException, IllegalArgumentException {
        checkSlot(slot);
        checkNumber(key);
        return maps[slot].at(key);
    }

    public int getOr(int slot, int key, int value) throws IndexOutOfBoundsException, IllegalArgumentException {
        checkSlot(slot);
        checkNumber(key);
        checkNumber(value);
        return maps[slot].isKey(key) ? maps[slot].at(key) : value;
    }

    public boolean has(int slot, int key) throws IndexOutOfBoundsException, IllegalArgumentException {
        checkSlot(slot);
        checkNumber(key);
        return maps[slot].isKey(key);
    }

    public boolean hasValue(int slot, int value) throws IndexOutOfBoundsException, IllegalArgumentException {
        checkSlot(slot);
        checkNumber(value);
        return maps[slot].timesOf(value) > 0;
    }

    public int size(int slot) throws IndexOutOfBoundsException {
        checkSlot(slot);
        return maps[slot].count;
    }

    public int kinds(int slot) throws IndexOutOfBoundsException {
        checkSlot(slot);
        return unlikeValues(maps[slot]);
    }

    public int keyAt(int slot, int index) throws IndexOutOfBoundsException, NoSuchElementException {
        checkSlot(slot);
        if (index < 0 || index >= maps[slot].count) {
            throw new NoSuchElementException("no key has this place");
        }
        return maps[slot].keyOfPlace(index);
    }

    public boolean isSame(int one, int other) throws IndexOutOfBoundsException {
        checkSlot(one);
        checkSlot(other);
        return maps[one].matches(maps[other]);
    }

    public boolean areSameKeys(int one, int other) throws IndexOutOfBoundsException {
        checkSlot(one);
        checkSlot(other);
        return maps[one].matchesKeys(maps[other]);
    }

    public boolean areSameValues(int one, int other) throws IndexOutOfBoundsException {
        checkSlot(one);
        checkSlot(other);
        return matchValues(maps[one], maps[other]);
    }

    public int hash(int slot) throws IndexOutOfBoundsException {
        checkSlot(slot);
        return maps[slot].sumOfPairs();
    }

    public int keysHash(int slot) throws IndexOutOfBoundsException {
        checkSlot(slot);
        return maps[slot].sumOfKeys();
    }

    // Cutting by views

    public int dropValue(int slot, int value) throws IndexOutOfBoundsException, IllegalArgumentException {
        checkSlot(slot);
        checkNumber(value);
        return openToWrite(slot).eraseValue(value);
    }

    public int dropOdd(int slot) throws IndexOutOfBoundsException {
        checkSlot(slot);
        return openToWrite(slot).eraseOdd();
    }

    public int shift(int slot, int by) throws IndexOutOfBoundsException, IllegalArgumentException {
        checkSlot(slot);
        checkRange(by, 0, TOP);
        return openToWrite(slot).addToAll(by);
    }

    public int copy(int slot, int to) throws IndexOutOfBoundsException {
        checkSlot(slot);
        checkSlot(to);
        draft.become(maps[slot]);
        return settle(to);
    }

    public int join(int one, int other, int to) throws IndexOutOfBoundsException {
        checkSlot(one);
        checkSlot(other);
        checkSlot(to);
        draft.become(maps[one]);
        draft.markAll(maps[other]);
        return settle(to);
    }

    public int less(int one, int other, int to) throws IndexOutOfBoundsException {
        checkSlot(one);
        checkSlot(other);
        checkSlot(to);
        draft.become(maps[one]);
        draft.eraseKeysOf(maps[other]);
        return settle(to);
    }

    public int common(int one, int other, int to) throws IndexOutOfBoundsException {
        checkSlot(one);
        checkSlot(other);
        checkSlot(to);
        draft.become(maps[one]);
        draft.retainKeysOf(maps[other]);
        return settle(to);
    }

    public int alike(int one, int other, int to) throws IndexOutOfBoundsException {
        checkSlot(one);
        checkSlot(other);
        checkSlot(to);
        draft.become(maps[one]);
        draft.retainPairsOf(maps[other]);
        return settle(to);
    }

    // Following

    public int behind(int one, int other, int to) throws IndexOutOfBoundsException {
        checkSlot(one);
        checkSlot(other);
        checkSlot(to);
        draft.become(maps[one]);
        draft.sendThrough(maps[other]);
        return settle(to);
    }

    public int turn(int slot, int to) throws IndexOutOfBoundsException, UnsupportedOperationException {
        checkSlot(slot);
        checkSlot(to);
        checkTurns(maps[slot]);
        draft.becomeTurned(maps[slot]);
        return settle(to);
    }

    public int power(int slot, int exponent, int to) throws IndexOutOfBoundsException, IllegalArgumentException {
        checkSlot(slot);
        checkSlot(to);
        checkRange(exponent, 0, MOST_EXPONENT);
        raise(maps[slot], exponent);
        return settle(to);
    }

    public boolean isInto(int slot) throws IndexOutOfBoundsException {
        checkSlot(slot);
        return maps[slot].staysInside();
    }

    public int fixed(int slot) throws IndexOutOfBoundsException {
        checkSlot(slot);
        return maps[slot].selves();
    }

    public int steps(int slot, int key)
            throws IndexOutOfBoundsException, IllegalArgumentException, NoSuchElementException {
        walkFrom(slot, key);
        return walk.length;
    }

    public int ring(int slot, int key)
            throws IndexOutOfBoundsException, IllegalArgumentException, NoSuchElementException {
        walkFrom(slot, key);
        return walk.ringLength();
    }

    public long order(int slot) throws IndexOutOfBoundsException, UnsupportedOperationException {
        checkSlot(slot);
        if (!maps[slot].staysInside()) {
            throw new UnsupportedOperationException("the map is not into itself");
        }
        checkTurns(maps[slot]);
        return leastCommonLength(maps[slot]);
    }

    // Words

    public int say(int key, int value) throws IllegalArgumentException, IllegalStateException {
        checkNumber(key);
        checkNumber(value);
        checkWordFits();
        row.append(key, value);
        return row.count;
    }

    public int unsay(int key) throws IllegalArgumentException, IllegalStateException {
        checkNumber(key);
        checkWordFits();
        row.append(key, ABSENT);
        return row.count;
    }

    public int hush() {
        int had = row.count;
        row.count = 0;
        return had;
    }

    public int stir(int seed) throws IllegalArgumentException {
        checkRange(seed, 1, (int) STIR_MODULUS - 1);
        return row.mix(seed);
    }

    public int play(int to) throws IndexOutOfBoundsException {
        checkSlot(to);
        row.doAll(draft);
        return settle(to);
    }

    public int playLast(int to, boolean isNoisy) throws IndexOutOfBoundsException {
        checkSlot(to);
        row.doLast(draft, isNoisy);
        return settle(to);
    }

    public int lastWords() {
        return row.countLast();
    }

    // Figures

    public int undo() throws NoSuchElementException {
        if (past.count == 0) {
            throw new NoSuchElementException("no map is kept");
        }
        int slot = past.latestSlot();
        past.giveBack(maps[slot]);
        return slot;
    }

    public float share(int slot) throws IndexOutOfBoundsException, ArithmeticException {
        checkSlot(slot);
        int keys = maps[slot].count;
        if (keys == 0) {
            throw new ArithmeticException("the map has no keys");
        }
        return (float) maps[slot].selves() / (float) keys;
    }

    public double meanSize() {
        int sum = 0;
        for (int slot = 0; slot < SLOTS; slot++) {
            sum += maps[slot].count;
        }
        return (double) sum / (double) SLOTS;
    }

    public long checksum() {
        long sum = 7L;
        for (int slot = 0; slot < SLOTS; slot++) {
            sum = maps[slot].addTo(sum);
        }
        return row.addTo(sum);
    }

    public boolean isSound() {
        return areRemakesSame() && isRowLikeItsLastWords() && doEqualsAgree() && doTurnsComeBack();
    }

    // What a call may be given

    private static boolean isNumber(int number) {
        return number >= NONE && number <= TOP;
    }

    private static void checkSlot(int slot) {
        if (slot < 0 || slot >= SLOTS) {
            throw new IndexOutOfBoundsException("no such slot");
        }
    }

    private static void checkNumber(int number) {
        checkRange(number, NONE, TOP);
    }

    private static void checkRange(int number, int least, int most) {
        if (number < least || number > most) {
            throw new IllegalArgumentException("a number is out of range");
        }
    }

    private static void checkWay(boolean isWay) {
        if (!isWay) {
            throw new IllegalArgumentException("no such way");
        }
    }

    private static void checkIsKey(Table map, int key) {
        if (!map.isKey(key)) {
            throw new NoSuchElementException("it is no key of the map");
        }
    }

    private void checkTurns(Table map) {
        if (!canTurn(map)) {
            throw new UnsupportedOperationException("a value stands for two keys");
        }
    }

    private void checkWordFits() {
        if (row.count >= MOST_WORDS) {
            throw new IllegalStateException("the row is full");
        }
    }

    // Keeping what a slot held

    private Table openToWrite(int slot) {
        past.keep(slot, maps[slot]);
        return maps[slot];
    }

    private int settle(int to) {
        Table map = openToWrite(to);
        map.become(draft);
        return map.count;
    }

    // What values become

    private static int wrapped(int number) {
        return number > TOP ? number - (TOP + 1) : number;
    }

    private static int merged(int had, int value, char how) {
        if (had == ABSENT || had == NONE) {
            return value;
        }
        if (how == '+') {
            return wrapped(had + value);
        }
        return how == '>' ? Math.max(had, value) : ABSENT;
    }

    private static int computed(int had, int key, char how) {
        boolean isAny = had != ABSENT && had != NONE;
        if (how == 'i') {
            return isAny ? wrapped(had + 1) : 0;
        }
        if (how == 'd') {
            return isAny && had > 0 ? had - 1 : ABSENT;
        }
        if (how == 'f') {
            return isAny ? had : Math.max(key, 0);
        }
        return doubled(had);
    }

    private static int doubled(int had) {
        if (had == ABSENT || had == NONE) {
            return had;
        }
        return had == 0 ? ABSENT : wrapped(2 * had);
    }

    // Counting values

    private void addToTally(Table map, int times) {
        for (int key = NONE; key <= TOP; key++) {
            int value = map.at(key);
            if (isNumber(value)) {
                tally[value + 1] += times;
            }
        }
    }

    private int unlikeValues(Table map) {
        Arrays.fill(tally, 0);
        addToTally(map, 1);
        int unlike = 0;
        for (int index = 0; index < NUMBERS; index++) {
            unlike += tally[index] > 0 ? 1 : 0;
        }
        return unlike;
    }

    private boolean matchValues(Table one, Table other) {
        Arrays.fill(tally, 0);
        addToTally(one, 1);
        addToTally(other, -1);
        for (int index = 0; index < NUMBERS; index++) {
            if (tally[index] != 0) {
                return false;
            }
        }
        return true;
    }

    private boolean canTurn(Table map) {
        return unlikeValues(map) == map.count;
    }

    // Ways, powers and orders

    private void walkFrom(int slot, int key) {
        checkSlot(slot);
        checkNumber(key);
        checkIsKey(maps[slot], key);
        walk.forget();
        walk.follow(maps[slot], key);
    }

    private void raise(Table map, int exponent) {
        draft.becomeSelves(map);
        second.become(map);
        // Powers of one map may change places, so halving the exponent is as good as going one by one.
        for (int rest = exponent; rest > 0; rest >>= 1) {
            if ((rest & 1) == 1) {
                draft.sendThrough(second);
            }
            third.become(second);
            second.sendThrough(third);
        }
    }

    private long leastCommonLength(Table map) {
        walk.forget();
        long least = 1L;
        for (int key = NONE; key <= TOP; key++) {
            if (map.isKey(key) && !walk.hasSeen(key)) {
                walk.follow(map, key);
                least = leastCommonMultiple(least, walk.length);
            }
        }
        return least;
    }

    private static long leastCommonMultiple(long one, long other) {
        long divisor = greatestCommonDivisor(one, other);
        return divisor > 0 ? one / divisor * other : one;
    }

    private static long greatestCommonDivisor(long one, long other) {
        long greater = one;
        long smaller = other;
        for (int step = 0; step < DIVISOR_STEPS && smaller > 0; step++) {
            long rest = greater % smaller;
            greater = smaller;
            smaller = rest;
        }
        return greater;
    }

    // The theorem

    private boolean areRemakesSame() {
        for (int slot = 0; slot < SLOTS; slot++) {
            draft.wipe();
            for (int key = TOP; key >= NONE; key--) {
                draft.mark(key, maps[slot].at(key));
            }
            if (!draft.matches(maps[slot]) || !doAgree(draft, maps[slot])) {
                return false;
            }
        }
        return true;
    }

    private boolean isRowLikeItsLastWords() {
        row.doAll(draft);
        row.doLast(second, false);
        row.doLast(third, true);
        return draft.matches(second) && draft.matches(third) && row.countLast() <= row.count;
    }

    private boolean doEqualsAgree() {
        for (int one = 0; one < SLOTS; one++) {
            for (int other = 0; other < one; other++) {
                if (maps[one].matches(maps[other]) && !doAgree(maps[one], maps[other])) {
                    return false;
                }
            }
        }
        return true;
    }

    private boolean doAgree(Table one, Table other) {
        return one.count == other.count
                && one.sumOfPairs() == other.sumOfPairs()
                && one.sumOfKeys() == other.sumOfKeys()
                && one.matchesKeys(other)
                && matchValues(one, other);
    }

    private boolean doTurnsComeBack() {
        for (int slot = 0; slot < SLOTS; slot++) {
            if (canTurn(maps[slot]) && !doesTurnComeBack(maps[slot])) {
                return false;
            }
        }
        return true;
    }

    private boolean doesTurnComeBack(Table map) {
        draft.becomeTurned(map);
        second.becomeTurned(draft);
        third.become(map);
        third.sendThrough(draft);
        return draft.count == map.count && second.matches(map)
                && third.count == map.count && third.selves() == map.count;
    }

    /** A map: what each key has, with a place for every number that a key can be. */
    private static final class Table {
        private final int[] told = new int[NUMBERS];
        private int count = 0;

        Table() {
            Arrays.fill(told, ABSENT);
        }

        int at(int key) {
            return isNumber(key) ? told[key + 1] : ABSENT;
        }

        boolean isKey(int key) {
            return at(key) != ABSENT;
        }

        void mark(int key, int value) {
            if (!isNumber(key)) {
                return;
            }
            count += (value == ABSENT ? 0 : 1) - (told[key + 1] == ABSENT ? 0 : 1);
            told[key + 1] = value;
        }

        void wipe() {
            Arrays.fill(told, ABSENT);
            count = 0;
        }

        void become(Table other) {
            System.arraycopy(other.told, 0, told, 0, NUMBERS);
            count = other.count;
        }

        int timesOf(int value) {
            int times = 0;
            for (int key = NONE; key <= TOP; key++) {
                times += at(key) == value ? 1 : 0;
            }
            return times;
        }

        int keyOfPlace(int place) {
            int left = place;
            for (int key = NONE; key <= TOP; key++) {
                if (isKey(key)) {
                    if (left == 0) {
                        return key;
                    }
                    left--;
                }
            }
            return ABSENT;
        }

        boolean matches(Table other) {
            for (int key = NONE; key <= TOP; key++) {
                if (at(key) != other.at(key)) {
                    return false;
                }
            }
            return true;
        }

        boolean matchesKeys(Table other) {
            for (int key = NONE; key <= TOP; key++) {
                if (isKey(key) != other.isKey(key)) {
                    return false;
                }
            }
            return true;
        }

        int sumOfPairs() {
            int sum = 0;
            for (int key = NONE; key <= TOP; key++) {
                if (isKey(key)) {
                    sum += Math.max(key, 0) ^ Math.max(at(key), 0);
                }
            }
            return sum;
        }

        int sumOfKeys() {
            int sum = 0;
            for (int key = NONE; key <= TOP; key++) {
                sum += isKey(key) ? Math.max(key, 0) : 0;
            }
            return sum;
        }

        int eraseValue(int value) {
            int before = count;
            for (int key = NONE; key <= TOP; key++) {
                if (at(key) == value) {
                    mark(key, ABSENT);
                }
            }
            return before - count;
        }

        int eraseOdd() {
            int before = count;
            for (int key = NONE; key <= TOP; key++) {
                // The sign that stands for none is odd, none itself is not.
                if (at(key) > 0 && (at(key) & 1) == 1) {
                    mark(key, ABSENT);
                }
            }
            return before - count;
        }

        int addToAll(int by) {
            int changes = 0;
            for (int key = NONE; key <= TOP; key++) {
                int value = at(key);
                if (value != ABSENT && value != NONE) {
                    mark(key, wrapped(value + by));
                    changes += at(key) == value ? 0 : 1;
                }
            }
            return changes;
        }

        void markAll(Table other) {
            for (int key = NONE; key <= TOP; key++) {
                if (other.isKey(key)) {
                    mark(key, other.at(key));
                }
            }
        }

        void eraseKeysOf(Table other) {
            for (int key = NONE; key <= TOP; key++) {
                if (other.isKey(key)) {
                    mark(key, ABSENT);
                }
            }
        }

        void retainKeysOf(Table other) {
            for (int key = NONE; key <= TOP; key++) {
                if (!other.isKey(key)) {
                    mark(key, ABSENT);
                }
            }
        }

        void retainPairsOf(Table other) {
            for (int key = NONE; key <= TOP; key++) {
                if (at(key) != other.at(key)) {
                    mark(key, ABSENT);
                }
            }
        }

        // The other map must not be this one: what it tells is read while this one changes.
        void sendThrough(Table other) {
            for (int key = NONE; key <= TOP; key++) {
                if (isKey(key)) {
                    mark(key, other.at(at(key)));
                }
            }
        }

        void becomeTurned(Table other) {
            wipe();
            for (int key = NONE; key <= TOP; key++) {
                if (other.isKey(key)) {
                    mark(other.at(key), key);
                }
            }
        }

        void becomeSelves(Table other) {
            wipe();
            for (int key = NONE; key <= TOP; key++) {
                if (other.isKey(key)) {
                    mark(key, key);
                }
            }
        }

        boolean staysInside() {
            for (int key = NONE; key <= TOP; key++) {
                if (isKey(key) && !isKey(at(key))) {
                    return false;
                }
            }
            return true;
        }

        int selves() {
            int found = 0;
            for (int key = NONE; key <= TOP; key++) {
                found += at(key) == key ? 1 : 0;
            }
            return found;
        }

        long addTo(long start) {
            long sum = 31L * start + count;
            for (int key = NONE; key <= TOP; key++) {
                if (isKey(key)) {
                    sum = 31L * sum + key;
                    sum = 31L * sum + at(key);
                }
            }
            return sum;
        }
    }

    /** The row of words: each one's key, and the value it writes, or ABSENT if it takes the key away. */
    private static final class Row {
        private final int[] keys = new int[MOST_WORDS];
        private final int[] values = new int[MOST_WORDS];
        private final boolean[] isFollowed = new boolean[NUMBERS];
        private final int[] held = new int[NOISY_KEYS];
        private int count = 0;

        void append(int key, int value) {
            if (count < MOST_WORDS) {
                keys[count] = key;
                values[count] = value;
                count++;
            }
        }

        int mix(int seed) {
            long z = seed;
            int changes = 0;
            for (int round = 0; round < count; round++) {
                z = STIR_FACTOR * z % STIR_MODULUS;
                int index = (int) (z % count);
                if (index + 1 < count && keys[index] != keys[index + 1]) {
                    swapWithNext(index);
                    changes++;
                }
            }
            return changes;
        }

        private void swapWithNext(int index) {
            int key = keys[index];
            int value = values[index];
            keys[index] = keys[index + 1];
            values[index] = values[index + 1];
            keys[index + 1] = key;
            values[index + 1] = value;
        }

        void doAll(Table map) {
            map.wipe();
            for (int index = 0; index < count; index++) {
                map.mark(keys[index], values[index]);
            }
        }

        void doLast(Table map, boolean isNoisy) {
            map.wipe();
            forgetFollowed();
            for (int index = count - 1; index >= 0; index--) {
                if (isLast(index)) {
                    if (isNoisy) {
                        disturb(map);
                    }
                    map.mark(keys[index], values[index]);
                }
            }
        }

        int countLast() {
            forgetFollowed();
            int found = 0;
            for (int index = count - 1; index >= 0; index--) {
                found += isLast(index) ? 1 : 0;
            }
            return found;
        }

        private void forgetFollowed() {
            for (int index = 0; index < NUMBERS; index++) {
                isFollowed[index] = false;
            }
        }

        // Right only for one who asks from the last word on to the first one.
        private boolean isLast(int index) {
            int place = keys[index] + 1;
            if (place < 0 || place >= NUMBERS || isFollowed[place]) {
                return false;
            }
            isFollowed[place] = true;
            return true;
        }

        private void disturb(Table map) {
            for (int key = 0; key < NOISY_KEYS; key++) {
                held[key] = map.at(key);
                map.mark(key, NONE);
            }
            for (int key = 0; key < NOISY_KEYS; key++) {
                map.mark(key, held[key]);
            }
        }

        long addTo(long start) {
            long sum = 31L * start + count;
            for (int index = 0; index < count; index++) {
                sum = 31L * sum + keys[index];
                sum = 31L * sum + values[index];
            }
            return sum;
        }
    }

    /** The maps that the latest calls wrote over, in a round of places of which the oldest is used again. */
    private static final class Past {
        private final Table[] held = new Table[MOST_KEPT];
        private final int[] slots = new int[MOST_KEPT];
        private int next = 0;
        private int count = 0;

        Past() {
            for (int place = 0; place < MOST_KEPT; place++) {
                held[place] = new Table();
            }
        }

        void keep(int slot, Table map) {
            held[next].become(map);
            slots[next] = slot;
            next = (next + 1) % MOST_KEPT;
            count = Math.min(count + 1, MOST_KEPT);
        }

        private int latest() {
            return (next + MOST_KEPT - 1) % MOST_KEPT;
        }

        int latestSlot() {
            return slots[latest()];
        }

        void giveBack(Table map) {
            next = latest();
            map.become(held[next]);
            count = Math.max(count - 1, 0);
        }
    }

    /** A way along a map: at which step it came to each number, and where it stopped. */
    private static final class Walk {
        private final int[] stepAt = new int[NUMBERS];
        private int length = 0;
        private int end = ABSENT;
        private boolean isAtKey = false;

        void forget() {
            Arrays.fill(stepAt, 0);
        }

        boolean hasSeen(int key) {
            return isNumber(key) && stepAt[key + 1] > 0;
        }

        void follow(Table map, int key) {
            length = 0;
            end = key;
            while (length < NUMBERS && map.isKey(end) && !hasSeen(end)) {
                length++;
                stepAt[end + 1] = length;
                end = map.at(end);
            }
            isAtKey = map.isKey(end);
        }

        int ringLength() {
            return isAtKey && hasSeen(end) ? length - stepAt[end + 1] + 1 : 0;
        }
    }
}
