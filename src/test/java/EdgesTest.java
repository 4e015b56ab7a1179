/** The first and the last number and the last slot, call by call, and calls after other ones that leave traces. */
public final class EdgesTest {
    private static final int[] ENDS = {-1, 255};

    private EdgesTest() {
    }

    public static void main(String[] args) {
        ask();
        cut();
        join();
        follow();
        otherSlots();
        figures();
        traces();
        Check.end("EdgesTest");
    }

    private static String told(Keywright x, int slot) {
        return CuttingTest.told(x, slot);
    }

    private static Keywright with(int slot, int key, int value) {
        Keywright x = new Keywright();
        x.put(slot, key, value);
        return x;
    }

    private static void ask() {
        for (int key : ENDS) {
            Keywright x = with(7, key, 4);
            x.put(6, key, 5);
            Check.due("12: " + key, x.getOr(7, key, 9), 4);
            Check.due("14: " + key, x.hasValue(7, 4), true);
            Check.due("16: " + key, x.kinds(7), 1);
            Check.due("17: " + key, x.keyAt(7, 0), key);
            Check.due("18: " + key, x.isSame(6, 7), false);
            Check.due("19: " + key, x.areSameKeys(6, 7), true);
            Check.due("19: " + key + " alone", x.areSameKeys(0, 7), false);
            Check.due("20: " + key, x.areSameValues(6, 7), false);
            Check.due("21: " + key, x.hash(7), Math.max(key, 0) ^ 4);
            Check.due("22: " + key, x.keysHash(7), Math.max(key, 0));
        }
        for (int value : ENDS) {
            Check.due("14: the value " + value, with(7, 4, value).hasValue(7, value), true);
            Check.due("16: the value " + value, with(7, 4, value).kinds(7), 1);
            Check.due("20: the value " + value, with(7, 4, value).areSameValues(7, 0), false);
        }
    }

    private static void cut() {
        for (int key : ENDS) {
            Keywright x = with(7, key, 5);
            Check.due("23: " + key, x.dropValue(7, 5), 1);
            Check.due("23: then " + key, x.size(7), 0);
            x.undo();
            Check.due("24: " + key, x.dropOdd(7), 1);
            Check.due("24: then " + key, x.size(7), 0);
            x.undo();
            Check.due("25: " + key, x.shift(7, 251), 1);
            Check.due("25: then " + key, told(x, 7), key + ":0");
            x.undo();
            Check.due("26: " + key, x.copy(7, 6), 1);
            Check.due("26: then " + key, told(x, 6), key + ":5");
            Check.due("10: " + key, x.clear(7), 1);
            Check.due("10: then " + key, told(x, 7), "");
        }
        Keywright x = with(7, 0, 0);
        Check.due("24: 0 is even", x.dropOdd(7), 0);
        Check.due("25: 0 by 255", x.shift(7, 255), 1);
        Check.due("25: then", told(x, 7), "0:255");
    }

    private static void join() {
        for (int key : ENDS) {
            Keywright x = with(7, key, 5);
            x.put(6, key, 6);
            x.put(5, key, 5);
            Check.due("27: " + key, x.join(7, 6, 0), 1);
            Check.due("27: then " + key, told(x, 0), key + ":6");
            Check.due("27: with nothing " + key, x.join(7, 4, 0), 1);
            Check.due("27: nothing with " + key, x.join(4, 7, 0), 1);
            Check.due("28: " + key, x.less(7, 6, 0), 0);
            Check.due("28: nothing of " + key, x.less(7, 4, 0), 1);
            Check.due("29: " + key, x.common(7, 6, 0), 1);
            Check.due("29: then " + key, told(x, 0), key + ":5");
            Check.due("29: with nothing " + key, x.common(7, 4, 0), 0);
            Check.due("30: " + key, x.alike(7, 5, 0), 1);
            Check.due("30: of another value " + key, x.alike(7, 6, 0), 0);
            Check.due("30: with nothing " + key, x.alike(7, 4, 0), 0);
        }
    }

    private static void follow() {
        for (int key : ENDS) {
            int other = 254 - key;
            Keywright x = with(7, key, other);
            x.put(6, other, key);
            Check.due("31: " + key, x.behind(7, 6, 0), 1);
            Check.due("31: then " + key, told(x, 0), key + ":" + key);
            Check.due("31: none behind " + key, x.behind(7, 7, 0), 0);
            Check.due("32: " + key, x.turn(7, 0), 1);
            Check.due("32: then " + key, x.isSame(0, 6), true);
            Check.due("33: 0 of " + key, x.power(7, 0, 0), 1);
            Check.due("33: then " + key, told(x, 0), key + ":" + key);
            Check.due("35: then " + key, x.fixed(0), 1);
            Check.due("47: then " + key, x.share(0), 1.0f);
            Check.due("33: 2 of " + key, x.power(7, 2, 0), 0);
            Check.due("34: " + key, x.isInto(7), false);
            Check.due("36: " + key, x.steps(7, key), 1);
            Check.due("37: " + key, x.ring(7, key), 0);
            x.put(7, other, key);
            Check.due("33: 1 of two " + key, x.power(7, 1, 0), 2);
            Check.due("34: two " + key, x.isInto(7), true);
            Check.due("36: two " + key, x.steps(7, key), 2);
            Check.due("37: two " + key, x.ring(7, key), 2);
            Check.due("38: two " + key, x.order(7), 2L);
            Check.due("50: two " + key, x.isSound(), true);
        }
    }

    private static void otherSlots() {
        for (int slot = 0; slot < 8; slot++) {
            Keywright x = new Keywright();
            for (int other = 0; other < 8; other++) {
                x.put(other, 1, 1);
                x.put(other, 2, 1);
            }
            x.put(slot, 1, 2);
            x.put(slot, 3, 3);
            String at = " of slot " + slot;
            Check.due("12" + at, x.getOr(slot, 3, 0), 3);
            Check.due("14" + at, x.hasValue(slot, 3), true);
            Check.due("16" + at, x.kinds(slot), 3);
            Check.due("17" + at, x.keyAt(slot, 2), 3);
            Check.due("21" + at, x.hash(slot), 6);
            Check.due("22" + at, x.keysHash(slot), 6);
            Check.due("34" + at, x.isInto(slot), true);
            Check.due("35" + at, x.fixed(slot), 1);
            Check.due("36" + at, x.steps(slot, 1), 2);
            Check.due("37" + at, x.ring(slot, 1), 2);
            Check.due("38" + at, x.order(slot), 2L);
            Check.due("47" + at, x.share(slot), 1.0f / 3.0f);
            int to = (slot + 3) % 8;
            Check.due("32" + at, x.turn(slot, to), 3);
            Check.due("32: then" + at, told(x, to), "1:2 2:1 3:3");
            Check.due("33" + at, x.power(slot, 3, to), 3);
            Check.due("33: then" + at, told(x, to), "1:2 2:1 3:3");
        }
    }

    private static void figures() {
        for (int key : ENDS) {
            Keywright x = with(7, key, key);
            Check.due("35: " + key, x.fixed(7), 1);
            Check.due("35: another slot than " + key, x.fixed(0), 0);
            Check.due("48: " + key, x.meanSize(), 0.125);
            long sum = 7;
            for (int part : new int[] {0, 0, 0, 0, 0, 0, 0, 1, key, key, 0}) {
                sum = 31 * sum + part;
            }
            Check.due("49: " + key, x.checksum(), sum);
        }
    }

    private static void traces() {
        Keywright x = with(0, -1, -1);
        x.put(0, 5, 6);
        x.put(0, 6, 5);
        x.say(9, 9);
        Check.due("45: one word", x.lastWords(), 1);
        Check.due("36: ahead", x.steps(0, 5), 2);
        Check.due("38: after steps", x.order(0), 2L);
        Check.due("38: again", x.order(0), 2L);
        Check.due("37: after order", x.ring(0, 5), 2);
        Check.due("36: after order", x.steps(0, 6), 2);
        Check.due("16: after all", x.kinds(0), 3);
        Check.due("20: after kinds", x.areSameValues(0, 0), true);
        x.copy(0, 1);
        Check.due("44: after copy", x.playLast(2, false), 1);
        x.copy(0, 1);
        Check.due("44: noisy after copy", x.playLast(2, true), 1);
        x.copy(0, 1);
        Check.due("43: after copy", x.play(2), 1);
        x.copy(0, 1);
        Check.due("32: after copy", x.turn(2, 3), 1);
        x.copy(0, 1);
        Check.due("33: after copy", x.power(2, 0, 3), 1);
        Check.due("50: after all", x.isSound(), true);
    }
}
