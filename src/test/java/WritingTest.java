/** Promises 1 to 10: a new object, and writing. */
public final class WritingTest {
    private WritingTest() {
    }

    public static void main(String[] args) {
        newObject();
        put();
        putFirst();
        change();
        changeIf();
        take();
        takeIf();
        merge();
        compute();
        clear();
        Check.end("WritingTest");
    }

    /** Slot 0 with 1 -> 10, 2 -> none, 3 -> 0. */
    private static Keywright some() {
        Keywright x = new Keywright();
        x.put(0, 1, 10);
        x.put(0, 2, -1);
        x.put(0, 3, 0);
        return x;
    }

    private static void newObject() {
        Keywright x = new Keywright();
        for (int slot = 0; slot < 8; slot++) {
            Check.due("1: size of " + slot, x.size(slot), 0);
            for (int key = -1; key < 256; key++) {
                Check.due("1: get of " + key, x.get(slot, key), -2);
            }
        }
        Check.due("1: lastWords", x.lastWords(), 0);
        Check.due("1: hush", x.hush(), 0);
        long sum = 7;
        for (int count = 0; count < 9; count++) {
            sum *= 31;
        }
        Check.due("1: checksum", x.checksum(), sum);
        x.put(0, 1, 1);
        Check.due("1: another object has its own maps", new Keywright().size(0), 0);
    }

    private static void put() {
        Keywright x = some();
        Check.due("2: a new key", x.put(0, 4, 5), -2);
        Check.due("2: again", x.put(0, 4, 6), 5);
        Check.due("2: over none", x.put(0, 2, 7), -1);
        Check.due("2: over 0", x.put(0, 3, 8), 0);
        Check.due("2: none as key and value", x.put(0, -1, -1), -2);
        Check.due("2: none again", x.put(0, -1, 255), -1);
        Check.due("2: the greatest key", x.put(0, 255, 255), -2);
        Check.due("2: the least number", x.put(0, 0, 0), -2);
        Check.due("2: then 4", x.get(0, 4), 6);
        Check.due("2: then none", x.get(0, -1), 255);
        Check.due("2: then 0", x.get(0, 0), 0);
        Check.due("2: then 255", x.get(0, 255), 255);
        Check.due("2: size", x.size(0), 7);
        Check.due("2: other slots stay", x.size(1), 0);
        for (int key = -1; key < 256; key++) {
            x.put(7, key, key);
        }
        Check.due("2: all keys", x.size(7), 257);
        Check.due("2: all keys, changed in order", x.put(7, 100, -1), 100);
    }

    private static void putFirst() {
        Keywright x = some();
        Check.due("3: a new key", x.putFirst(0, 4, 5), -2);
        Check.due("3: then", x.get(0, 4), 5);
        Check.due("3: a key that has something", x.putFirst(0, 1, 5), 10);
        Check.due("3: then", x.get(0, 1), 10);
        Check.due("3: a key that has none", x.putFirst(0, 2, 5), -1);
        Check.due("3: then", x.get(0, 2), 5);
        Check.due("3: a key that has 0", x.putFirst(0, 3, 5), 0);
        Check.due("3: then", x.get(0, 3), 0);
        Check.due("3: none for a new key", x.putFirst(0, -1, -1), -2);
        Check.due("3: then", x.get(0, -1), -1);
        Check.due("3: none for none", x.putFirst(0, -1, -1), -1);
        Check.due("3: size", x.size(0), 5);
    }

    private static void change() {
        Keywright x = some();
        Check.due("4: no key", x.change(0, 4, 5), -2);
        Check.due("4: then", x.get(0, 4), -2);
        Check.due("4: none, no key", x.change(0, -1, 5), -2);
        Check.due("4: a key", x.change(0, 1, 5), 10);
        Check.due("4: then", x.get(0, 1), 5);
        Check.due("4: a key that has none", x.change(0, 2, 5), -1);
        Check.due("4: then", x.get(0, 2), 5);
        Check.due("4: to none", x.change(0, 3, -1), 0);
        Check.due("4: then", x.get(0, 3), -1);
        Check.due("4: size", x.size(0), 3);
    }

    private static void changeIf() {
        Keywright x = some();
        Check.due("5: it has that", x.changeIf(0, 1, 10, 5), true);
        Check.due("5: then", x.get(0, 1), 5);
        Check.due("5: it has another one", x.changeIf(0, 1, 10, 6), false);
        Check.due("5: then", x.get(0, 1), 5);
        Check.due("5: it has none", x.changeIf(0, 2, -1, 6), true);
        Check.due("5: then", x.get(0, 2), 6);
        Check.due("5: no key has not even none", x.changeIf(0, 4, -1, 6), false);
        Check.due("5: then", x.get(0, 4), -2);
        Check.due("5: 0 is not none", x.changeIf(0, 3, -1, 6), false);
        Check.due("5: to none", x.changeIf(0, 3, 0, -1), true);
        Check.due("5: then", x.get(0, 3), -1);
        Check.due("5: to the same", x.changeIf(0, 3, -1, -1), true);
        Check.due("5: size", x.size(0), 3);
    }

    private static void take() {
        Keywright x = some();
        Check.due("6: a key", x.take(0, 1), 10);
        Check.due("6: again", x.take(0, 1), -2);
        Check.due("6: a key that has none", x.take(0, 2), -1);
        Check.due("6: then", x.has(0, 2), false);
        Check.due("6: a key that has 0", x.take(0, 3), 0);
        Check.due("6: none, no key", x.take(0, -1), -2);
        x.put(0, -1, 9);
        Check.due("6: none", x.take(0, -1), 9);
        Check.due("6: size", x.size(0), 0);
    }

    private static void takeIf() {
        Keywright x = some();
        Check.due("7: it has another one", x.takeIf(0, 1, 11), false);
        Check.due("7: then", x.get(0, 1), 10);
        Check.due("7: it has that", x.takeIf(0, 1, 10), true);
        Check.due("7: then", x.has(0, 1), false);
        Check.due("7: 0 is not none", x.takeIf(0, 3, -1), false);
        Check.due("7: none is not 0", x.takeIf(0, 2, 0), false);
        Check.due("7: it has none", x.takeIf(0, 2, -1), true);
        Check.due("7: no key has not even none", x.takeIf(0, 2, -1), false);
        Check.due("7: size", x.size(0), 1);
    }

    private static void merge() {
        Keywright x = some();
        Check.due("8: + of a new key", x.merge(0, 4, 9, '+'), 9);
        Check.due("8: > of a new key", x.merge(0, 5, 0, '>'), 0);
        Check.due("8: x of a new key", x.merge(0, 6, 7, 'x'), 7);
        Check.due("8: + to 255", x.merge(0, 4, 246, '+'), 255);
        Check.due("8: + to 256", x.merge(0, 4, 1, '+'), 0);
        Check.due("8: + of 0 and 255", x.merge(0, 4, 255, '+'), 255);
        Check.due("8: + of 255 and 255", x.merge(0, 4, 255, '+'), 254);
        Check.due("8: > the old one", x.merge(0, 1, 9, '>'), 10);
        Check.due("8: > the new one", x.merge(0, 1, 11, '>'), 11);
        Check.due("8: > 0 and 0", x.merge(0, 3, 0, '>'), 0);
        Check.due("8: x of a key", x.merge(0, 6, 9, 'x'), -2);
        Check.due("8: then", x.has(0, 6), false);
        Check.due("8: x of a key that has 0", x.merge(0, 3, 9, 'x'), -2);
        Check.due("8: + of none", x.merge(0, 2, 3, '+'), 3);
        x.put(0, 2, -1);
        Check.due("8: > of none", x.merge(0, 2, 0, '>'), 0);
        x.put(0, 2, -1);
        Check.due("8: x of none", x.merge(0, 2, 4, 'x'), 4);
        Check.due("8: then", x.get(0, 2), 4);
        Check.due("8: the key none", x.merge(0, -1, 4, '+'), 4);
        Check.due("8: the key none again", x.merge(0, -1, 4, '+'), 8);
        Check.due("8: size", x.size(0), 5);
    }

    private static void compute() {
        Keywright x = some();
        Check.due("9: i", x.compute(0, 1, 'i'), 11);
        Check.due("9: i of 0", x.compute(0, 3, 'i'), 1);
        Check.due("9: i of none", x.compute(0, 2, 'i'), 0);
        Check.due("9: i of no key", x.compute(0, 9, 'i'), 0);
        Check.due("9: then", x.get(0, 9), 0);
        x.put(0, 9, 255);
        Check.due("9: i of 255", x.compute(0, 9, 'i'), 0);
        Check.due("9: d", x.compute(0, 1, 'd'), 10);
        Check.due("9: d of 1", x.compute(0, 3, 'd'), 0);
        Check.due("9: d of 0", x.compute(0, 3, 'd'), -2);
        Check.due("9: then", x.has(0, 3), false);
        Check.due("9: d of no key", x.compute(0, 3, 'd'), -2);
        x.put(0, 2, -1);
        Check.due("9: d of none", x.compute(0, 2, 'd'), -2);
        Check.due("9: then", x.has(0, 2), false);
        Check.due("9: size", x.size(0), 2);
        fill();
        twice();
    }

    private static void fill() {
        Keywright x = some();
        Check.due("9: f of no key", x.compute(0, 200, 'f'), 200);
        Check.due("9: then", x.get(0, 200), 200);
        Check.due("9: f of none", x.compute(0, 2, 'f'), 2);
        Check.due("9: f of others", x.compute(0, 1, 'f'), 10);
        Check.due("9: f of 0", x.compute(0, 3, 'f'), 0);
        Check.due("9: f of the key none", x.compute(0, -1, 'f'), 0);
        x.put(0, -1, -1);
        Check.due("9: f of the key none with none", x.compute(0, -1, 'f'), 0);
        Check.due("9: size", x.size(0), 5);
    }

    private static void twice() {
        Keywright x = some();
        Check.due("9: p", x.compute(0, 1, 'p'), 20);
        x.put(0, 1, 127);
        Check.due("9: p of 127", x.compute(0, 1, 'p'), 254);
        Check.due("9: p of 254", x.compute(0, 1, 'p'), 252);
        x.put(0, 1, 128);
        Check.due("9: p of 128", x.compute(0, 1, 'p'), 0);
        Check.due("9: then", x.has(0, 1), true);
        Check.due("9: p of 0", x.compute(0, 1, 'p'), -2);
        Check.due("9: then", x.has(0, 1), false);
        Check.due("9: p of no key", x.compute(0, 1, 'p'), -2);
        Check.due("9: p of none", x.compute(0, 2, 'p'), -1);
        Check.due("9: then", x.has(0, 2), true);
        Check.due("9: size", x.size(0), 2);
    }

    private static void clear() {
        Keywright x = some();
        x.put(1, 1, 1);
        Check.due("10: clear", x.clear(0), 3);
        Check.due("10: then", x.size(0), 0);
        Check.due("10: then 2", x.has(0, 2), false);
        Check.due("10: again", x.clear(0), 0);
        Check.due("10: another slot", x.size(1), 1);
    }
}
