import java.util.function.Function;

/** Wrong inputs: each call throws the exception that is documented first, and changes nothing. */
public final class RefusalsTest {
    private static final String SLOT = "throws.IndexOutOfBoundsException";
    private static final String NUMBER = "throws.IllegalArgumentException";
    private static final String NO_SUCH = "throws.NoSuchElementException";
    private static final String NOT_DONE = "throws.UnsupportedOperationException";
    private static final String STATE = "throws.IllegalStateException";
    private static final String DIVISION = "throws.ArithmeticException";
    private static final int[] NO_SLOTS = {-1, 8, -2, 9, Integer.MIN_VALUE, Integer.MAX_VALUE};
    private static final int[] NO_NUMBERS = {-2, 256, -3, 257, Integer.MIN_VALUE, Integer.MAX_VALUE};
    private static final int[] NO_COUNTS = {-1, 256, -2, 257, Integer.MIN_VALUE, Integer.MAX_VALUE};

    private RefusalsTest() {
    }

    public static void main(String[] args) {
        refuseSlots();
        refuseNumbersInWriting();
        refuseNumbersElsewhere();
        refuseWays();
        refuseWhatIsNotThere();
        refuseMapsThatDoNotFit();
        refuseWords();
        throwWhatIsDocumentedFirst();
        Check.end("RefusalsTest");
    }

    /** Slot 0: 1 -> 2, 2 -> 2, none -> none; slot 1: 5 -> 6; slot 2: 3 -> 4, 4 -> 3; slot 3 without keys. */
    private static Keywright some() {
        Keywright x = new Keywright();
        x.put(0, 1, 2);
        x.put(0, 2, 2);
        x.put(0, -1, -1);
        x.put(1, 5, 6);
        x.put(2, 3, 4);
        x.put(2, 4, 3);
        x.say(1, 2);
        x.unsay(3);
        return x;
    }

    private static Keywright full() {
        Keywright x = some();
        for (int count = 2; count < 60; count++) {
            x.say(count, -1);
        }
        return x;
    }

    private static void refuses(String call, String want, Function<Keywright, Object> use) {
        refuses(call, want, some(), some(), use);
    }

    private static void refuses(String call, String want, Keywright x, Keywright twin,
            Function<Keywright, Object> use) {
        Check.due(call, Check.told(() -> use.apply(x)), want);
        Check.due(call + ", then all", Check.portrait(x), Check.portrait(twin));
    }

    private static void refuseSlots() {
        for (int s : NO_SLOTS) {
            String at = " of slot " + s;
            refuses("put" + at, SLOT, x -> x.put(s, 1, 1));
            refuses("putFirst" + at, SLOT, x -> x.putFirst(s, 1, 1));
            refuses("change" + at, SLOT, x -> x.change(s, 1, 1));
            refuses("changeIf" + at, SLOT, x -> x.changeIf(s, 1, 2, 1));
            refuses("take" + at, SLOT, x -> x.take(s, 1));
            refuses("takeIf" + at, SLOT, x -> x.takeIf(s, 1, 2));
            refuses("merge" + at, SLOT, x -> x.merge(s, 1, 1, '+'));
            refuses("compute" + at, SLOT, x -> x.compute(s, 1, 'i'));
            refuses("clear" + at, SLOT, x -> x.clear(s));
            refuses("get" + at, SLOT, x -> x.get(s, 1));
            refuses("getOr" + at, SLOT, x -> x.getOr(s, 1, 1));
            refuses("has" + at, SLOT, x -> x.has(s, 1));
            refuses("hasValue" + at, SLOT, x -> x.hasValue(s, 1));
            refuses("size" + at, SLOT, x -> x.size(s));
            refuses("kinds" + at, SLOT, x -> x.kinds(s));
            refuses("keyAt" + at, SLOT, x -> x.keyAt(s, 0));
            refuses("isSame" + at, SLOT, x -> x.isSame(s, 0));
            refuses("isSame other" + at, SLOT, x -> x.isSame(0, s));
            refuses("areSameKeys" + at, SLOT, x -> x.areSameKeys(s, 0));
            refuses("areSameKeys other" + at, SLOT, x -> x.areSameKeys(0, s));
            refuses("areSameValues" + at, SLOT, x -> x.areSameValues(s, 0));
            refuses("areSameValues other" + at, SLOT, x -> x.areSameValues(0, s));
            refuses("hash" + at, SLOT, x -> x.hash(s));
            refuses("keysHash" + at, SLOT, x -> x.keysHash(s));
            refuses("dropValue" + at, SLOT, x -> x.dropValue(s, 2));
            refuses("dropOdd" + at, SLOT, x -> x.dropOdd(s));
            refuses("shift" + at, SLOT, x -> x.shift(s, 1));
            refuseSlotsThatBecome(at, s);
            refuses("isInto" + at, SLOT, x -> x.isInto(s));
            refuses("fixed" + at, SLOT, x -> x.fixed(s));
            refuses("steps" + at, SLOT, x -> x.steps(s, 1));
            refuses("ring" + at, SLOT, x -> x.ring(s, 1));
            refuses("order" + at, SLOT, x -> x.order(s));
            refuses("play" + at, SLOT, x -> x.play(s));
            refuses("playLast" + at, SLOT, x -> x.playLast(s, false));
            refuses("playLast noisy" + at, SLOT, x -> x.playLast(s, true));
            refuses("share" + at, SLOT, x -> x.share(s));
        }
    }

    private static void refuseSlotsThatBecome(String at, int s) {
        refuses("copy" + at, SLOT, x -> x.copy(s, 1));
        refuses("copy to" + at, SLOT, x -> x.copy(0, s));
        refuses("join" + at, SLOT, x -> x.join(s, 1, 2));
        refuses("join other" + at, SLOT, x -> x.join(0, s, 2));
        refuses("join to" + at, SLOT, x -> x.join(0, 1, s));
        refuses("less" + at, SLOT, x -> x.less(s, 1, 2));
        refuses("less other" + at, SLOT, x -> x.less(0, s, 2));
        refuses("less to" + at, SLOT, x -> x.less(0, 1, s));
        refuses("common" + at, SLOT, x -> x.common(s, 1, 2));
        refuses("common other" + at, SLOT, x -> x.common(0, s, 2));
        refuses("common to" + at, SLOT, x -> x.common(0, 1, s));
        refuses("alike" + at, SLOT, x -> x.alike(s, 1, 2));
        refuses("alike other" + at, SLOT, x -> x.alike(0, s, 2));
        refuses("alike to" + at, SLOT, x -> x.alike(0, 1, s));
        refuses("behind" + at, SLOT, x -> x.behind(s, 1, 2));
        refuses("behind other" + at, SLOT, x -> x.behind(0, s, 2));
        refuses("behind to" + at, SLOT, x -> x.behind(0, 1, s));
        refuses("turn" + at, SLOT, x -> x.turn(s, 2));
        refuses("turn to" + at, SLOT, x -> x.turn(1, s));
        refuses("power" + at, SLOT, x -> x.power(s, 2, 1));
        refuses("power to" + at, SLOT, x -> x.power(0, 2, s));
    }

    private static void refuseNumbersInWriting() {
        for (int n : NO_NUMBERS) {
            String of = " of " + n;
            refuses("put key" + of, NUMBER, x -> x.put(0, n, 1));
            refuses("put value" + of, NUMBER, x -> x.put(0, 1, n));
            refuses("putFirst key" + of, NUMBER, x -> x.putFirst(0, n, 1));
            refuses("putFirst value" + of, NUMBER, x -> x.putFirst(0, 1, n));
            refuses("change key" + of, NUMBER, x -> x.change(0, n, 1));
            refuses("change value" + of, NUMBER, x -> x.change(0, 1, n));
            refuses("changeIf key" + of, NUMBER, x -> x.changeIf(0, n, 2, 1));
            refuses("changeIf was" + of, NUMBER, x -> x.changeIf(0, 1, n, 1));
            refuses("changeIf value" + of, NUMBER, x -> x.changeIf(0, 1, 2, n));
            refuses("changeIf value, not written," + of, NUMBER, x -> x.changeIf(0, 1, 3, n));
            refuses("take key" + of, NUMBER, x -> x.take(0, n));
            refuses("takeIf key" + of, NUMBER, x -> x.takeIf(0, n, 1));
            refuses("takeIf value" + of, NUMBER, x -> x.takeIf(0, 1, n));
            refuses("merge key" + of, NUMBER, x -> x.merge(0, n, 1, '+'));
            refuses("compute key" + of, NUMBER, x -> x.compute(0, n, 'i'));
        }
        for (int n : NO_COUNTS) {
            for (char how : "+>x".toCharArray()) {
                refuses("merge value of " + n + " by " + how, NUMBER, x -> x.merge(0, 1, n, how));
                refuses("merge first value of " + n + " by " + how, NUMBER, x -> x.merge(3, 1, n, how));
            }
        }
    }

    private static void refuseNumbersElsewhere() {
        for (int n : NO_NUMBERS) {
            String of = " of " + n;
            refuses("get key" + of, NUMBER, x -> x.get(0, n));
            refuses("getOr key" + of, NUMBER, x -> x.getOr(0, n, 1));
            refuses("getOr value" + of, NUMBER, x -> x.getOr(0, 1, n));
            refuses("getOr value for no key" + of, NUMBER, x -> x.getOr(0, 9, n));
            refuses("has key" + of, NUMBER, x -> x.has(0, n));
            refuses("hasValue" + of, NUMBER, x -> x.hasValue(0, n));
            refuses("dropValue" + of, NUMBER, x -> x.dropValue(0, n));
            refuses("steps key" + of, NUMBER, x -> x.steps(0, n));
            refuses("ring key" + of, NUMBER, x -> x.ring(0, n));
            refuses("say key" + of, NUMBER, x -> x.say(n, 1));
            refuses("say value" + of, NUMBER, x -> x.say(1, n));
            refuses("unsay key" + of, NUMBER, x -> x.unsay(n));
        }
        for (int n : NO_COUNTS) {
            refuses("shift by " + n, NUMBER, x -> x.shift(0, n));
        }
        for (int n : new int[] {-1, 1001, -2, Integer.MIN_VALUE, Integer.MAX_VALUE}) {
            refuses("power " + n, NUMBER, x -> x.power(0, n, 1));
        }
        for (int n : new int[] {0, -1, Integer.MIN_VALUE, Integer.MAX_VALUE}) {
            refuses("stir of " + n, NUMBER, x -> x.stir(n));
        }
    }

    private static void refuseWays() {
        for (char how = 0; how < 400; how++) {
            char way = how;
            if ("+>x".indexOf(way) < 0) {
                refuses("merge by " + (int) way, NUMBER, x -> x.merge(0, 1, 1, way));
                refuses("merge of no key by " + (int) way, NUMBER, x -> x.merge(0, 9, 1, way));
            }
            if ("idfp".indexOf(way) < 0) {
                refuses("compute by " + (int) way, NUMBER, x -> x.compute(0, 1, way));
            }
        }
    }

    private static void refuseWhatIsNotThere() {
        for (int place : new int[] {-1, 3, 4, 257, Integer.MIN_VALUE, Integer.MAX_VALUE}) {
            refuses("keyAt place " + place, NO_SUCH, x -> x.keyAt(0, place));
        }
        refuses("keyAt without keys", NO_SUCH, x -> x.keyAt(3, 0));
        refuses("steps of no key", NO_SUCH, x -> x.steps(0, 3));
        refuses("steps of none, no key", NO_SUCH, x -> x.steps(1, -1));
        refuses("ring of no key", NO_SUCH, x -> x.ring(0, 3));
        refuses("ring of none, no key", NO_SUCH, x -> x.ring(1, -1));
        refuses("undo of nothing", NO_SUCH, new Keywright(), new Keywright(), x -> x.undo());
        refuses("share without keys", DIVISION, x -> x.share(3));
    }

    private static void refuseMapsThatDoNotFit() {
        refuses("turn with a value for two", NOT_DONE, x -> x.turn(0, 3));
        refuses("turn with a value for two, into itself", NOT_DONE, x -> x.turn(0, 0));
        refuses("order with a value for two", NOT_DONE, x -> x.order(0));
        refuses("order not into itself", NOT_DONE, x -> x.order(1));
        Keywright twoNones = noneTwice();
        refuses("turn with none for two", NOT_DONE, twoNones, noneTwice(), x -> x.turn(0, 1));
        refuses("order with none for two", NOT_DONE, noneTwice(), noneTwice(), x -> x.order(0));
    }

    private static Keywright noneTwice() {
        Keywright x = new Keywright();
        x.put(0, 1, -1);
        x.put(0, -1, -1);
        return x;
    }

    private static void refuseWords() {
        refuses("say with 60 words", STATE, full(), full(), x -> x.say(1, 1));
        refuses("unsay with 60 words", STATE, full(), full(), x -> x.unsay(1));
    }

    private static void throwWhatIsDocumentedFirst() {
        refuses("put, all wrong", SLOT, x -> x.put(8, 256, 256));
        refuses("putFirst, all wrong", SLOT, x -> x.putFirst(8, 256, 256));
        refuses("change, all wrong", SLOT, x -> x.change(8, 256, 256));
        refuses("changeIf, all wrong", SLOT, x -> x.changeIf(8, 256, 256, 256));
        refuses("take, all wrong", SLOT, x -> x.take(8, 256));
        refuses("takeIf, all wrong", SLOT, x -> x.takeIf(8, 256, 256));
        refuses("merge, all wrong", SLOT, x -> x.merge(8, 256, 256, '?'));
        refuses("compute, all wrong", SLOT, x -> x.compute(8, 256, '?'));
        refuses("get, all wrong", SLOT, x -> x.get(8, 256));
        refuses("getOr, all wrong", SLOT, x -> x.getOr(8, 256, 256));
        refuses("has, all wrong", SLOT, x -> x.has(8, 256));
        refuses("hasValue, all wrong", SLOT, x -> x.hasValue(8, 256));
        refuses("keyAt, all wrong", SLOT, x -> x.keyAt(8, -1));
        refuses("dropValue, all wrong", SLOT, x -> x.dropValue(8, 256));
        refuses("shift, all wrong", SLOT, x -> x.shift(8, 256));
        refuses("turn, the first slot's map and the other slot wrong", SLOT, x -> x.turn(0, 8));
        refuses("power, the number and the last slot wrong", SLOT, x -> x.power(0, 1001, 8));
        refuses("steps, all wrong", SLOT, x -> x.steps(8, 256));
        refuses("ring, all wrong", SLOT, x -> x.ring(8, 256));
        refuses("steps, a number that is no key", NUMBER, x -> x.steps(0, 256));
        refuses("ring, a number that is no key", NUMBER, x -> x.ring(0, 256));
        refuses("say with 60 words, wrong", NUMBER, full(), full(), x -> x.say(1, 256));
        refuses("unsay with 60 words, wrong", NUMBER, full(), full(), x -> x.unsay(256));
    }
}
