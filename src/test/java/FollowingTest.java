/** Promises 31 to 38: following. */
public final class FollowingTest {
    private FollowingTest() {
    }

    public static void main(String[] args) {
        behind();
        turn();
        power();
        greatPowers();
        isInto();
        fixed();
        stepsAndRing();
        order();
        greatOrders();
        Check.end("FollowingTest");
    }

    /** Slot 0 with what each pair of numbers says. */
    private static Keywright with(int... pairs) {
        Keywright x = new Keywright();
        for (int index = 0; index + 1 < pairs.length; index += 2) {
            x.put(0, pairs[index], pairs[index + 1]);
        }
        return x;
    }

    private static String told(Keywright x, int slot) {
        return CuttingTest.told(x, slot);
    }

    private static void behind() {
        Keywright x = with(1, 2, 2, 3, 4, -1, 5, 9, -1, 2);
        x.put(1, 2, 20);
        x.put(1, 3, -1);
        x.put(1, -1, 0);
        x.put(1, 8, 8);
        Check.due("31: behind", x.behind(0, 1, 2), 4);
        Check.due("31: then", told(x, 2), "-1:20 1:20 2:-1 4:0");
        Check.due("31: the other way", x.behind(1, 0, 3), 1);
        Check.due("31: then", told(x, 3), "3:2");
        Check.due("31: itself behind itself", x.behind(0, 0, 0), 3);
        Check.due("31: then", told(x, 0), "-1:3 1:3 4:2");
        Check.due("31: onto the one behind", x.behind(0, 1, 1), 3);
        Check.due("31: then", told(x, 1), "-1:-1 1:-1 4:20");
        Check.due("31: behind nothing", x.behind(7, 1, 1), 0);
        Check.due("31: nothing behind", x.behind(0, 7, 0), 0);
    }

    private static void turn() {
        Keywright x = with(1, 2, 2, -1, -1, 5, 0, 0);
        Check.due("32: turn", x.turn(0, 1), 4);
        Check.due("32: then", told(x, 1), "-1:2 0:0 2:1 5:-1");
        Check.due("32: onto itself", x.turn(1, 1), 4);
        Check.due("32: then as ahead", x.isSame(0, 1), true);
        Check.due("32: without keys", x.turn(7, 0), 0);
        Check.due("32: then", told(x, 0), "");
        x = with(3, 4, 4, 4);
        Check.due("32: a value for two keys", Check.told(() -> with(3, 4, 4, 4).turn(0, 1)),
                "throws.UnsupportedOperationException");
        x.take(0, 3);
        Check.due("32: once it stands for one key", x.turn(0, 1), 1);
    }

    private static void power() {
        Keywright x = with(1, 2, 2, 3, 3, 4, 7, -1, -1, -1, 9, 1);
        Check.due("33: power 0", x.power(0, 0, 1), 6);
        Check.due("33: then", told(x, 1), "-1:-1 1:1 2:2 3:3 7:7 9:9");
        Check.due("33: power 1", x.power(0, 1, 1), 6);
        Check.due("33: then", told(x, 1), "-1:-1 1:2 2:3 3:4 7:-1 9:1");
        Check.due("33: power 2", x.power(0, 2, 1), 5);
        Check.due("33: then", told(x, 1), "-1:-1 1:3 2:4 7:-1 9:2");
        Check.due("33: power 3", x.power(0, 3, 1), 4);
        Check.due("33: then", told(x, 1), "-1:-1 1:4 7:-1 9:3");
        Check.due("33: power 4", x.power(0, 4, 1), 3);
        Check.due("33: power 5", x.power(0, 5, 1), 2);
        Check.due("33: then", told(x, 1), "-1:-1 7:-1");
        Check.due("33: power 1000 onto itself", x.power(0, 1000, 0), 2);
        Check.due("33: then", told(x, 0), "-1:-1 7:-1");
        Check.due("33: without keys", x.power(6, 0, 0), 0);
    }

    private static void greatPowers() {
        Keywright x = new Keywright();
        for (int key = -1; key < 256; key++) {
            x.put(0, key, key == 255 ? -1 : key + 1);
        }
        for (int exponent : new int[] {1, 2, 255, 256, 257, 258, 999, 1000}) {
            Check.due("33: of a ring of 257, " + exponent, x.power(0, exponent, 1), 257);
            boolean isRight = true;
            for (int key = -1; key < 256; key++) {
                isRight &= x.get(1, key) == (key + 1 + exponent) % 257 - 1;
            }
            Check.due("33: then", isRight, true);
        }
        x.take(0, 255);
        for (int exponent = 0; exponent <= 300; exponent += 50) {
            int due = exponent == 0 ? 256 : Math.max(0, 257 - exponent);
            Check.due("33: of a row of 257, " + exponent, x.power(0, exponent, 1), due);
        }
        Check.due("33: of a row of 257, 256", x.power(0, 256, 1), 1);
        Check.due("33: then", told(x, 1), "-1:255");
        Check.due("33: of a row of 257, 257", x.power(0, 257, 1), 0);
    }

    private static void isInto() {
        Check.due("34: without keys", with().isInto(0), true);
        Check.due("34: a value that is no key", with(1, 2).isInto(0), false);
        Check.due("34: none that is no key", with(1, -1).isInto(0), false);
        Check.due("34: none that is a key", with(1, -1, -1, 1).isInto(0), true);
        Check.due("34: two for one", with(1, 2, 2, 2).isInto(0), true);
    }

    private static void fixed() {
        Check.due("35: without keys", with().fixed(0), 0);
        Check.due("35: fixed", with(-1, -1, 0, 0, 1, 2, 3, -1, 255, 255).fixed(0), 3);
        Check.due("35: none and 0", with(-1, 0, 0, -1).fixed(0), 0);
    }

    private static void stepsAndRing() {
        Keywright x = with(1, 2, 2, 3, 3, 4, 4, 2, 10, 11, 11, 12, 20, -1, -1, -1, 30, 31, 31, -1, 40, 40);
        int[][] due = {
            {1, 4, 3}, {2, 3, 3}, {3, 3, 3}, {4, 3, 3}, {10, 2, 0}, {11, 1, 0}, {20, 2, 1}, {-1, 1, 1}, {30, 3, 1},
            {31, 2, 1}, {40, 1, 1},
        };
        for (int[] row : due) {
            Check.due("36: steps from " + row[0], x.steps(0, row[0]), row[1]);
            Check.due("37: ring from " + row[0], x.ring(0, row[0]), row[2]);
        }
        x.take(0, -1);
        Check.due("36: to none, no key", x.steps(0, 30), 2);
        Check.due("37: to none, no key", x.ring(0, 30), 0);
        for (int key = -1; key < 256; key++) {
            x.put(1, key, key == 255 ? -1 : key + 1);
        }
        Check.due("36: all keys", x.steps(1, 9), 257);
        Check.due("37: all keys", x.ring(1, 9), 257);
        x.put(1, 255, 255);
        Check.due("36: all keys, a small ring", x.steps(1, -1), 257);
        Check.due("37: all keys, a small ring", x.ring(1, -1), 1);
        x.take(1, 255);
        Check.due("36: all keys, no ring", x.steps(1, -1), 256);
        Check.due("37: all keys, no ring", x.ring(1, -1), 0);
    }

    private static void order() {
        Check.due("38: without keys", with().order(0), 1L);
        Check.due("38: one key", with(9, 9).order(0), 1L);
        Check.due("38: none alone", with(-1, -1).order(0), 1L);
        Check.due("38: with none", with(-1, 3, 3, -1).order(0), 2L);
        Check.due("38: two rings", with(1, 2, 2, 1, 3, 4, 4, 5, 5, 3).order(0), 6L);
        Check.due("38: rings of 4 and 6", rings(4, 6).order(0), 12L);
        Check.due("38: not into itself", Check.told(() -> with(1, 2).order(0)),
                "throws.UnsupportedOperationException");
        Check.due("38: a value for two keys", Check.told(() -> with(1, 2, 2, 2).order(0)),
                "throws.UnsupportedOperationException");
    }

    private static Keywright rings(int... lengths) {
        Keywright x = new Keywright();
        int first = -1;
        for (int length : lengths) {
            for (int step = 0; step < length; step++) {
                x.put(0, first + step, first + (step + 1) % length);
            }
            first += length;
        }
        return x;
    }

    private static void greatOrders() {
        Check.due("38: a ring of 257", rings(257).order(0), 257L);
        Check.due("38: rings of primes", rings(2, 3, 5, 7, 11, 13, 17, 19, 23, 29, 31, 37, 41).order(0),
                304250263527210L);
        Check.due("38: rings of powers of primes", rings(16, 9, 5, 7, 11, 13, 17, 19, 23, 29, 31, 37, 40).order(0),
                16L * 9 * 5 * 7 * 11 * 13 * 17 * 19 * 23 * 29 * 31 * 37);
        Keywright x = rings(5, 7, 9);
        Check.due("38: 5, 7, 9", x.order(0), 315L);
        x.power(0, 315, 1);
        x.power(0, 0, 2);
        Check.due("38: its power has each key with itself", x.isSame(1, 2), true);
        x.power(0, 105, 1);
        Check.due("38: a lower one has not", x.isSame(1, 2), false);
    }
}
