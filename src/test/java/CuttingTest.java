/** Promises 23 to 30: cutting by views. */
public final class CuttingTest {
    private CuttingTest() {
    }

    public static void main(String[] args) {
        dropValue();
        dropOdd();
        shift();
        copy();
        join();
        less();
        common();
        alike();
        ontoItself();
        Check.end("CuttingTest");
    }

    private static Keywright with(int[]... entries) {
        Keywright x = new Keywright();
        for (int[] entry : entries) {
            x.put(entry[0], entry[1], entry[2]);
        }
        return x;
    }

    /** Slot 0: none -> none, 1 -> 10, 2 -> none, 3 -> 30, 4 -> 41; slot 1: none -> none, 2 -> 20, 3 -> 30, 5 -> none. */
    private static Keywright two() {
        return with(new int[] {0, -1, -1}, new int[] {0, 1, 10}, new int[] {0, 2, -1}, new int[] {0, 3, 30},
                new int[] {0, 4, 41}, new int[] {1, -1, -1}, new int[] {1, 2, 20}, new int[] {1, 3, 30},
                new int[] {1, 5, -1});
    }

    static String told(Keywright x, int slot) {
        StringBuilder text = new StringBuilder();
        for (int index = 0; index < x.size(slot); index++) {
            int key = x.keyAt(slot, index);
            text.append(index == 0 ? "" : " ").append(key).append(':').append(x.get(slot, key));
        }
        return text.toString();
    }

    private static void dropValue() {
        Keywright x = two();
        Check.due("23: none", x.dropValue(0, -1), 2);
        Check.due("23: then", told(x, 0), "1:10 3:30 4:41");
        Check.due("23: no value", x.dropValue(0, 3), 0);
        Check.due("23: a value", x.dropValue(0, 30), 1);
        Check.due("23: then", told(x, 0), "1:10 4:41");
        Check.due("23: the other slot stays", told(x, 1), "-1:-1 2:20 3:30 5:-1");
        Check.due("23: without keys", x.dropValue(7, -1), 0);
    }

    private static void dropOdd() {
        Keywright x = two();
        x.put(0, 5, 255);
        x.put(0, 6, 1);
        x.put(0, 7, 0);
        Check.due("24: odd", x.dropOdd(0), 3);
        Check.due("24: then", told(x, 0), "-1:-1 1:10 2:-1 3:30 7:0");
        Check.due("24: again", x.dropOdd(0), 0);
        Check.due("24: without keys", x.dropOdd(7), 0);
    }

    private static void shift() {
        Keywright x = two();
        x.put(0, 6, 255);
        Check.due("25: by 0", x.shift(0, 0), 0);
        Check.due("25: then", told(x, 0), "-1:-1 1:10 2:-1 3:30 4:41 6:255");
        Check.due("25: by 1", x.shift(0, 1), 4);
        Check.due("25: then", told(x, 0), "-1:-1 1:11 2:-1 3:31 4:42 6:0");
        Check.due("25: by 255", x.shift(0, 255), 4);
        Check.due("25: then", told(x, 0), "-1:-1 1:10 2:-1 3:30 4:41 6:255");
        Check.due("25: none alone", x.shift(7, 255), 0);
    }

    private static void copy() {
        Keywright x = two();
        Check.due("26: copy", x.copy(0, 1), 5);
        Check.due("26: then", told(x, 1), "-1:-1 1:10 2:-1 3:30 4:41");
        x.put(1, 9, 9);
        Check.due("26: a copy goes its own way", told(x, 0), "-1:-1 1:10 2:-1 3:30 4:41");
        Check.due("26: without keys", x.copy(7, 0), 0);
        Check.due("26: then", told(x, 0), "");
    }

    private static void join() {
        Keywright x = two();
        Check.due("27: join", x.join(0, 1, 2), 6);
        Check.due("27: then", told(x, 2), "-1:-1 1:10 2:20 3:30 4:41 5:-1");
        Check.due("27: the other way", x.join(1, 0, 3), 6);
        Check.due("27: then", told(x, 3), "-1:-1 1:10 2:-1 3:30 4:41 5:-1");
        Check.due("27: the maps stay", told(x, 0) + " / " + told(x, 1),
                "-1:-1 1:10 2:-1 3:30 4:41 / -1:-1 2:20 3:30 5:-1");
        Check.due("27: over something", x.join(6, 7, 2), 0);
    }

    private static void less() {
        Keywright x = two();
        Check.due("28: less", x.less(0, 1, 2), 2);
        Check.due("28: then", told(x, 2), "1:10 4:41");
        Check.due("28: the other way", x.less(1, 0, 3), 1);
        Check.due("28: then", told(x, 3), "5:-1");
        Check.due("28: less nothing", x.less(0, 7, 2), 5);
    }

    private static void common() {
        Keywright x = two();
        Check.due("29: common", x.common(0, 1, 2), 3);
        Check.due("29: then", told(x, 2), "-1:-1 2:-1 3:30");
        Check.due("29: the other way", x.common(1, 0, 3), 3);
        Check.due("29: then", told(x, 3), "-1:-1 2:20 3:30");
        Check.due("29: with nothing", x.common(0, 7, 2), 0);
    }

    private static void alike() {
        Keywright x = two();
        Check.due("30: alike", x.alike(0, 1, 2), 2);
        Check.due("30: then", told(x, 2), "-1:-1 3:30");
        Check.due("30: the other way", x.alike(1, 0, 3), 2);
        Check.due("30: none is not no key", x.alike(1, 7, 3), 0);
        Check.due("30: over something", told(x, 3), "");
    }

    private static void ontoItself() {
        Keywright x = two();
        Check.due("26: onto itself", x.copy(0, 0), 5);
        Check.due("26: then", told(x, 0), "-1:-1 1:10 2:-1 3:30 4:41");
        Check.due("27: onto the first one", x.join(0, 1, 0), 6);
        Check.due("27: then", told(x, 0), "-1:-1 1:10 2:20 3:30 4:41 5:-1");
        x = two();
        Check.due("27: onto the other one", x.join(0, 1, 1), 6);
        Check.due("27: then", told(x, 1), "-1:-1 1:10 2:20 3:30 4:41 5:-1");
        x = two();
        Check.due("28: onto the other one", x.less(0, 1, 1), 2);
        Check.due("28: then", told(x, 1), "1:10 4:41");
        Check.due("28: itself", x.less(1, 1, 1), 0);
        x = two();
        Check.due("29: onto the other one", x.common(0, 1, 1), 3);
        Check.due("29: then", told(x, 1), "-1:-1 2:-1 3:30");
        Check.due("29: itself", x.common(0, 0, 0), 5);
        x = two();
        Check.due("30: onto the other one", x.alike(0, 1, 1), 2);
        Check.due("30: then", told(x, 1), "-1:-1 3:30");
        Check.due("30: itself", x.alike(0, 0, 0), 5);
    }
}
