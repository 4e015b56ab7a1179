/** Promises 11 to 22: asking. */
public final class AskingTest {
    private AskingTest() {
    }

    public static void main(String[] args) {
        tellOne();
        tellNumbers();
        keyAt();
        isSame();
        areSameKeys();
        areSameValues();
        hash();
        askingKeepsNothing();
        Check.end("AskingTest");
    }

    /** Slot 0 with none -> 7, 0 -> none, 5 -> 7, 255 -> 0. */
    private static Keywright some() {
        Keywright x = new Keywright();
        x.put(0, 255, 0);
        x.put(0, 5, 7);
        x.put(0, 0, -1);
        x.put(0, -1, 7);
        return x;
    }

    private static void tellOne() {
        Keywright x = some();
        Check.due("11: get", x.get(0, 5), 7);
        Check.due("11: get of none", x.get(0, -1), 7);
        Check.due("11: get of what has none", x.get(0, 0), -1);
        Check.due("11: get of 255", x.get(0, 255), 0);
        Check.due("11: get of no key", x.get(0, 1), -2);
        Check.due("11: get without keys", x.get(1, -1), -2);
        Check.due("12: getOr", x.getOr(0, 5, 9), 7);
        Check.due("12: getOr of what has none", x.getOr(0, 0, 9), -1);
        Check.due("12: getOr of no key", x.getOr(0, 1, 9), 9);
        Check.due("12: getOr of no key, none", x.getOr(0, 1, -1), -1);
        Check.due("12: getOr writes nothing", x.has(0, 1), false);
        Check.due("13: has", x.has(0, 5), true);
        Check.due("13: has what has none", x.has(0, 0), true);
        Check.due("13: has none", x.has(0, -1), true);
        Check.due("13: has no key", x.has(0, 254), false);
        Check.due("13: has none without keys", x.has(1, -1), false);
        Check.due("14: hasValue", x.hasValue(0, 7), true);
        Check.due("14: hasValue 0", x.hasValue(0, 0), true);
        Check.due("14: hasValue none", x.hasValue(0, -1), true);
        Check.due("14: hasValue of a key", x.hasValue(0, 5), false);
        Check.due("14: hasValue none without keys", x.hasValue(1, -1), false);
    }

    private static void tellNumbers() {
        Keywright x = some();
        Check.due("15: size", x.size(0), 4);
        Check.due("15: size without keys", x.size(1), 0);
        Check.due("16: kinds", x.kinds(0), 3);
        Check.due("16: kinds without keys", x.kinds(1), 0);
        x.put(0, 6, -1);
        Check.due("16: kinds with none twice", x.kinds(0), 3);
        x.take(0, 0);
        x.take(0, 6);
        Check.due("16: kinds without none", x.kinds(0), 2);
        for (int key = -1; key < 256; key++) {
            x.put(2, key, 254 - key);
        }
        Check.due("16: kinds of all", x.kinds(2), 257);
    }

    private static void keyAt() {
        Keywright x = some();
        Check.due("17: first", x.keyAt(0, 0), -1);
        Check.due("17: second", x.keyAt(0, 1), 0);
        Check.due("17: third", x.keyAt(0, 2), 5);
        Check.due("17: last", x.keyAt(0, 3), 255);
        x.take(0, -1);
        Check.due("17: first without none", x.keyAt(0, 0), 0);
    }

    private static void isSame() {
        Keywright x = some();
        Check.due("18: no keys", x.isSame(1, 2), true);
        Check.due("18: with itself", x.isSame(0, 0), true);
        Check.due("18: keys and no keys", x.isSame(0, 1), false);
        x.put(1, -1, 7);
        x.put(1, 0, -1);
        x.put(1, 5, 7);
        Check.due("18: a key less", x.isSame(0, 1), false);
        Check.due("18: a key more", x.isSame(1, 0), false);
        x.put(1, 255, 1);
        Check.due("18: another value", x.isSame(0, 1), false);
        x.put(1, 255, 0);
        Check.due("18: the same", x.isSame(0, 1), true);
        x.put(1, 0, 0);
        Check.due("18: 0 is not none", x.isSame(0, 1), false);
        x.take(1, 0);
        Check.due("18: no key is not none", x.isSame(1, 0), false);
    }

    private static void areSameKeys() {
        Keywright x = some();
        Check.due("19: no keys", x.areSameKeys(1, 2), true);
        Check.due("19: with itself", x.areSameKeys(0, 0), true);
        x.put(1, 255, 9);
        x.put(1, 5, 9);
        x.put(1, 0, 9);
        Check.due("19: a key less", x.areSameKeys(0, 1), false);
        x.put(1, -1, -1);
        Check.due("19: other values", x.areSameKeys(0, 1), true);
        x.put(1, 1, 1);
        Check.due("19: a key more", x.areSameKeys(0, 1), false);
    }

    private static void areSameValues() {
        Keywright x = some();
        Check.due("20: no keys", x.areSameValues(1, 2), true);
        x.put(1, 1, 7);
        x.put(1, 2, -1);
        x.put(1, 3, 0);
        Check.due("20: the same kinds, one not as often", x.areSameValues(0, 1), false);
        x.put(1, 4, 0);
        Check.due("20: as many, unlike often", x.areSameValues(0, 1), false);
        x.put(1, 4, 7);
        Check.due("20: of other keys", x.areSameValues(0, 1), true);
        Check.due("20: and back", x.areSameValues(1, 0), true);
        x.put(1, 5, 7);
        Check.due("20: one more", x.areSameValues(1, 0), false);
    }

    private static void hash() {
        Keywright x = some();
        Check.due("21: hash", x.hash(0), 7 + 0 + (5 ^ 7) + 255);
        Check.due("21: hash without keys", x.hash(1), 0);
        Check.due("22: keysHash", x.keysHash(0), 260);
        Check.due("22: keysHash without keys", x.keysHash(1), 0);
        x.put(1, 3, 3);
        Check.due("21: hash of the same bits", x.hash(1), 0);
        x.put(1, 200, -1);
        Check.due("21: hash with none", x.hash(1), 200);
        Check.due("22: keysHash again", x.keysHash(1), 203);
    }

    private static void askingKeepsNothing() {
        Keywright x = some();
        x.get(0, 5);
        x.getOr(0, 5, 5);
        x.has(0, 5);
        x.hasValue(0, 5);
        x.size(0);
        x.kinds(0);
        x.keyAt(0, 0);
        x.isSame(0, 1);
        x.areSameKeys(0, 1);
        x.areSameValues(0, 1);
        x.hash(0);
        x.keysHash(0);
        Check.due("asking keeps and changes nothing", Check.portrait(x), Check.portrait(some()));
    }
}
