import java.util.function.Consumer;

/** Promises 46 to 50: figures. */
public final class FiguresTest {
    private FiguresTest() {
    }

    public static void main(String[] args) {
        undoOfEachCall();
        undoOfWhatStays();
        nothingElseIsKept();
        atMostEight();
        undoAndWriteAgain();
        share();
        meanSize();
        checksum();
        isSound();
        Check.end("FiguresTest");
    }

    private static String told(Keywright x, int slot) {
        return CuttingTest.told(x, slot);
    }

    /** Slot 0: 1 -> 2, 2 -> 1; slot 1: 3 -> 5, none -> none; one word. */
    private static Keywright some() {
        Keywright x = new Keywright();
        x.put(0, 1, 2);
        x.put(0, 2, 1);
        x.put(1, 3, 5);
        x.put(1, -1, -1);
        x.say(7, 7);
        return x;
    }

    private static void undoes(String call, Consumer<Keywright> use) {
        Keywright x = some();
        use.accept(x);
        Check.due("46: undo of " + call, x.undo(), 1);
        Check.due("46: undo of " + call + ", then all", Check.portrait(x), Check.portrait(some()));
    }

    private static void undoOfEachCall() {
        undoes("put", x -> x.put(1, 4, 4));
        undoes("putFirst", x -> x.putFirst(1, 4, 4));
        undoes("change", x -> x.change(1, 3, 4));
        undoes("changeIf", x -> x.changeIf(1, 3, 5, 4));
        undoes("take", x -> x.take(1, -1));
        undoes("takeIf", x -> x.takeIf(1, 3, 5));
        undoes("merge", x -> x.merge(1, 3, 1, '+'));
        undoes("compute", x -> x.compute(1, 3, 'i'));
        undoes("clear", x -> x.clear(1));
        undoes("dropValue", x -> x.dropValue(1, -1));
        undoes("dropOdd", x -> x.dropOdd(1));
        undoes("shift", x -> x.shift(1, 1));
        undoes("copy", x -> x.copy(0, 1));
        undoes("join", x -> x.join(0, 1, 1));
        undoes("less", x -> x.less(0, 2, 1));
        undoes("common", x -> x.common(0, 1, 1));
        undoes("alike", x -> x.alike(0, 1, 1));
        undoes("behind", x -> x.behind(0, 0, 1));
        undoes("turn", x -> x.turn(0, 1));
        undoes("power", x -> x.power(0, 2, 1));
        undoes("play", x -> x.play(1));
        undoes("playLast", x -> x.playLast(1, false));
        undoes("playLast noisy", x -> x.playLast(1, true));
    }

    private static void undoOfWhatStays() {
        undoes("put of the same", x -> x.put(1, 3, 5));
        undoes("putFirst that writes nothing", x -> x.putFirst(1, 3, 9));
        undoes("change that writes nothing", x -> x.change(1, 9, 9));
        undoes("changeIf that writes nothing", x -> x.changeIf(1, 3, 9, 9));
        undoes("take of no key", x -> x.take(1, 9));
        undoes("takeIf that takes nothing", x -> x.takeIf(1, 3, 9));
        undoes("merge to the same", x -> x.merge(1, 3, 0, '+'));
        undoes("compute that stays", x -> x.compute(1, 3, 'f'));
        undoes("dropValue of nothing", x -> x.dropValue(1, 9));
        undoes("shift by 0", x -> x.shift(1, 0));
        undoes("copy onto itself", x -> x.copy(1, 1));
        undoes("power 1 onto itself", x -> x.power(1, 1, 1));
        Keywright x = some();
        x.clear(5);
        x.dropOdd(6);
        Check.due("46: undo of dropOdd without keys", x.undo(), 6);
        Check.due("46: undo of clear without keys", x.undo(), 5);
    }

    private static void nothingElseIsKept() {
        Keywright x = some();
        x.say(1, 1);
        x.unsay(2);
        x.stir(3);
        x.size(0);
        x.steps(0, 1);
        x.order(0);
        x.lastWords();
        x.checksum();
        x.isSound();
        x.hush();
        Check.due("46: words are not kept", x.undo(), 1);
        Check.due("46: then", told(x, 1), "3:5");
        Check.due("46: the row stays as it is", x.lastWords(), 0);
    }

    private static void atMostEight() {
        Keywright x = new Keywright();
        for (int key = 0; key < 12; key++) {
            x.put(key % 3, key, key);
        }
        for (int key = 11; key >= 4; key--) {
            Check.due("46: undo of " + key, x.undo(), key % 3);
            Check.due("46: then of " + key, x.has(key % 3, key), false);
            Check.due("46: and ahead of it", key < 3 || x.has((key - 3) % 3, key - 3), true);
        }
        Check.due("46: the ninth", Check.told(x::undo), "throws.NoSuchElementException");
        Check.due("46: slot 0", told(x, 0), "0:0 3:3");
        Check.due("46: slot 1", told(x, 1), "1:1");
        Check.due("46: slot 2", told(x, 2), "2:2");
    }

    private static void undoAndWriteAgain() {
        Keywright x = new Keywright();
        x.put(0, 1, 1);
        x.put(0, 1, 2);
        x.put(0, 1, 3);
        Check.due("46: undo", x.undo(), 0);
        Check.due("46: then", x.get(0, 1), 2);
        x.put(0, 1, 4);
        Check.due("46: undo again", x.undo(), 0);
        Check.due("46: then", x.get(0, 1), 2);
        Check.due("46: undo a third time", x.undo(), 0);
        Check.due("46: then", x.get(0, 1), 1);
        Check.due("46: undo a fourth time", x.undo(), 0);
        Check.due("46: then", x.get(0, 1), -2);
        Check.due("46: undo a fifth time", Check.told(x::undo), "throws.NoSuchElementException");
    }

    private static void share() {
        Keywright x = some();
        Check.due("47: no key with itself", x.share(0), 0.0f);
        Check.due("47: half", x.share(1), 0.5f);
        x.put(1, 9, 8);
        Check.due("47: a third", x.share(1), 1.0f / 3.0f);
        x.power(1, 0, 2);
        Check.due("47: all", x.share(2), 1.0f);
    }

    private static void meanSize() {
        Check.due("48: without keys", new Keywright().meanSize(), 0.0);
        Check.due("48: mean", some().meanSize(), 0.5);
        Keywright x = some();
        x.put(7, 1, 1);
        Check.due("48: mean of five", x.meanSize(), 0.625);
    }

    private static void checksum() {
        Keywright x = some();
        x.unsay(-1);
        x.say(-1, -1);
        int[] parts = {2, 1, 2, 2, 1, 2, -1, -1, 3, 5, 0, 0, 0, 0, 0, 0, 3, 7, 7, -1, -2, -1, -1};
        long sum = 7;
        for (int part : parts) {
            sum = 31 * sum + part;
        }
        Check.due("49: checksum", x.checksum(), sum);
        Check.due("49: again", x.checksum(), sum);
    }

    private static void isSound() {
        Check.due("50: a new object", new Keywright().isSound(), true);
        Keywright x = some();
        Check.due("50: some", x.isSound(), true);
        x.unsay(7);
        x.copy(1, 3);
        x.say(7, -1);
        x.stir(99);
        for (int key = -1; key < 256; key++) {
            x.put(6, key, 254 - key);
        }
        long sum = x.checksum();
        Check.due("50: more", x.isSound(), true);
        Check.due("50: nothing is changed", x.checksum(), sum);
        Check.due("50: nothing is kept", x.undo(), 6);
    }
}
