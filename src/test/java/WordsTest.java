/** Promises 39 to 45: words. */
public final class WordsTest {
    private WordsTest() {
    }

    public static void main(String[] args) {
        sayAndUnsay();
        hush();
        stir();
        play();
        playLast();
        noisyKeys();
        lastWords();
        Check.end("WordsTest");
    }

    private static String told(Keywright x, int slot) {
        return CuttingTest.told(x, slot);
    }

    private static void sayAndUnsay() {
        Keywright x = new Keywright();
        Check.due("39: say", x.say(1, 2), 1);
        Check.due("40: unsay", x.unsay(1), 2);
        Check.due("39: say none", x.say(-1, -1), 3);
        Check.due("40: unsay none", x.unsay(-1), 4);
        Check.due("39: no map changes", x.size(0), 0);
        for (int count = 5; count <= 60; count++) {
            Check.due("39 and 40: number " + count, count % 2 == 0 ? x.say(255, 255) : x.unsay(0), count);
        }
        Check.due("39: above 60", Check.told(() -> x.say(1, 2)), "throws.IllegalStateException");
        Check.due("40: above 60", Check.told(() -> x.unsay(1)), "throws.IllegalStateException");
        Check.due("39: then", x.hush(), 60);
        Check.due("39: anew", x.say(1, 2), 1);
    }

    private static void hush() {
        Keywright x = new Keywright();
        Check.due("41: without words", x.hush(), 0);
        x.say(1, 1);
        x.unsay(2);
        x.play(0);
        Check.due("41: hush", x.hush(), 2);
        Check.due("41: again", x.hush(), 0);
        Check.due("41: lastWords", x.lastWords(), 0);
        Check.due("41: the maps stay", told(x, 0), "1:1");
        Check.due("41: play", x.play(0), 0);
    }

    /** The row's order is told by nothing but the checksum. */
    private static long sumOfRow(int... words) {
        long sum = 7;
        for (int slot = 0; slot < 8; slot++) {
            sum *= 31;
        }
        sum = 31 * sum + words.length / 2;
        for (int part : words) {
            sum = 31 * sum + part;
        }
        return sum;
    }

    private static void stir() {
        Keywright x = new Keywright();
        Check.due("42: without words", x.stir(5), 0);
        x.say(1, 10);
        Check.due("42: one word", x.stir(5), 0);
        x.say(1, 11);
        Check.due("42: of one key", x.stir(2147483646), 0);
        Check.due("42: then", x.checksum(), sumOfRow(1, 10, 1, 11));
        x.hush();
        x.say(1, 10);
        x.unsay(2);
        x.say(3, 30);
        // 48271 and 182605794 leave 1 and 0, 1291394886 leaves 0.
        Check.due("42: three words", x.stir(1), 3);
        Check.due("42: then", x.checksum(), sumOfRow(1, 10, 3, 30, 2, -2));
        // 2147435376 leaves 0, 1964877853 leaves 1, 856088761 leaves 1.
        Check.due("42: the greatest seed", x.stir(2147483646), 3);
        Check.due("42: then", x.checksum(), sumOfRow(3, 30, 1, 10, 2, -2));
        stirFive();
    }

    private static void stirFive() {
        Keywright x = new Keywright();
        for (int key = 1; key <= 5; key++) {
            x.say(key, key + 10);
        }
        // The rests are 2, 3, 4, 2, 0; behind word 4 there is none.
        Check.due("42: five words", x.stir(7), 4);
        Check.due("42: then", x.checksum(), sumOfRow(2, 12, 1, 11, 5, 15, 4, 14, 3, 13));
    }

    private static void play() {
        Keywright x = new Keywright();
        x.put(0, 9, 9);
        x.say(1, 2);
        x.say(-1, -1);
        x.unsay(1);
        x.unsay(5);
        x.say(3, 0);
        x.say(3, 4);
        Check.due("43: play", x.play(0), 2);
        Check.due("43: then", told(x, 0), "-1:-1 3:4");
        x.say(1, 7);
        Check.due("43: play again", x.play(1), 3);
        Check.due("43: then", told(x, 1), "-1:-1 1:7 3:4");
        Check.due("43: without words", new Keywright().play(7), 0);
    }

    private static void playLast() {
        for (boolean isNoisy : new boolean[] {false, true}) {
            Keywright x = new Keywright();
            x.put(0, 9, 9);
            Check.due("44: without words", x.playLast(0, isNoisy), 0);
            Check.due("44: then", told(x, 0), "");
            x.put(0, 9, 9);
            x.say(1, 2);
            x.unsay(1);
            x.say(2, -1);
            x.say(40, 2);
            x.say(-1, 5);
            x.say(-1, 6);
            x.say(31, 0);
            x.unsay(32);
            Check.due("44: playLast", x.playLast(0, isNoisy), 4);
            Check.due("44: then", told(x, 0), "-1:6 2:-1 31:0 40:2");
            x.play(1);
            Check.due("44: as the row", x.isSame(0, 1), true);
            Check.due("44: the words stay", x.hush(), 8);
        }
    }

    private static void noisyKeys() {
        Keywright x = new Keywright();
        for (int key = -1; key < 59; key++) {
            x.say(key, key % 3 == 0 ? -1 : key);
        }
        Check.due("44: all noisy", x.playLast(0, true), 60);
        for (int key = -1; key < 59; key++) {
            Check.due("44: all noisy, " + key, x.get(0, key), key % 3 == 0 ? -1 : key);
        }
    }

    private static void lastWords() {
        Keywright x = new Keywright();
        Check.due("45: without words", x.lastWords(), 0);
        x.say(1, 1);
        x.unsay(1);
        Check.due("45: of one key", x.lastWords(), 1);
        x.say(2, 2);
        x.say(-1, -1);
        x.say(1, 1);
        Check.due("45: of three keys", x.lastWords(), 3);
        x.unsay(255);
        Check.due("45: of four keys", x.lastWords(), 4);
    }
}
