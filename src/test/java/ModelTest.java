import java.util.ArrayList;
import java.util.List;
import java.util.Random;

/**
 * Plays the same runs of calls on Keywright and on MapModel; the seeds are fixed. A checksum is asked for behind each
 * call, so that a run has at most the 512 calls for which an object is used.
 */
public final class ModelTest {
    /**
     * The calls, each with what its arguments are: s slot, k key, v value, m value of merge, b number of shift,
     * w way of merge, c way of compute, i index, e exponent, z seed, n noisy.
     */
    private static final String[] CALLS = {
        "put skv", "put skv", "put skv", "put skv", "putFirst skv", "change skv", "changeIf skvv", "take sk",
        "takeIf skv", "merge skmw", "compute skc", "compute skc", "clear s", "get sk", "getOr skv", "has sk",
        "hasValue sv", "size s", "kinds s", "keyAt si", "isSame ss", "areSameKeys ss", "areSameValues ss", "hash s",
        "keysHash s", "dropValue sv", "dropOdd s", "shift sb", "copy ss", "join sss", "less sss", "common sss",
        "alike sss", "behind sss", "turn ss", "power ses", "isInto s", "fixed s", "steps sk", "ring sk", "order s",
        "say kv", "say kv", "say kv", "unsay k", "hush", "stir z", "play s", "playLast sn", "lastWords", "undo",
        "share s", "meanSize", "checksum", "isSound",
    };
    private static final int[] WRONG = {-2, -3, 8, 9, 256, 257, 1001, 1000000, Integer.MAX_VALUE, Integer.MIN_VALUE};

    private static final int RUNS = 1200;
    private static final int UNDONE = 10;
    private static final int LENGTH = 512 / 2 - UNDONE;

    private final Random random;
    private final int keys;
    private final int slots;
    private final int wrongOneIn;

    private ModelTest(long seed) {
        random = new Random(seed);
        keys = new int[] {2, 4, 8, 40, 257}[(int) (seed % 5)];
        slots = new int[] {2, 8}[(int) (seed / 5 % 2)];
        wrongOneIn = new int[] {20, 200}[(int) (seed / 10 % 2)];
    }

    public static void main(String[] args) {
        for (long seed = 0; seed < RUNS; seed++) {
            new ModelTest(seed).run("run " + seed);
        }
        Check.end("ModelTest");
    }

    private void run(String name) {
        Keywright x = new Keywright();
        MapModel model = new MapModel();
        for (int call = 0; call < LENGTH; call++) {
            String[] parts = CALLS[random.nextInt(CALLS.length)].split(" ");
            // Maps and rows that are always emptied soon never get interesting.
            if ((parts[0].equals("clear") || parts[0].equals("hush")) && random.nextInt(5) > 0) {
                continue;
            }
            if (call < 40 && keys > 2 && random.nextInt(3) > 0) {
                parts = new String[] {"put", "skv"};
            }
            String told = Calls.told(parts[0], argumentsFor(parts.length == 1 ? "" : parts[1]));
            compare(name + ", call " + call + ": ", x, model, told);
        }
        for (int times = 0; times < UNDONE; times++) {
            compare(name + ", behind all: ", x, model, "undo()");
        }
    }

    private static void compare(String place, Keywright x, MapModel model, String call) {
        Check.due(place + call, Calls.answer(x, call), Calls.answer(model, call));
        Check.due(place + call + ", then checksum", x.checksum(), model.checksum());
    }

    private List<Object> argumentsFor(String kinds) {
        List<Object> arguments = new ArrayList<>();
        for (int place = 0; place < kinds.length(); place++) {
            arguments.add(argumentFor(kinds.charAt(place)));
        }
        return arguments;
    }

    private Object argumentFor(char kind) {
        boolean isWrong = random.nextInt(wrongOneIn) == 0;
        switch (kind) {
            case 'n':
                return random.nextBoolean();
            case 'w':
                return isWrong ? (char) random.nextInt(300) : "+>x".charAt(random.nextInt(3));
            case 'c':
                return isWrong ? (char) random.nextInt(300) : "idfp".charAt(random.nextInt(4));
            default:
                return isWrong ? WRONG[random.nextInt(WRONG.length)] : numberFor(kind);
        }
    }

    private Object numberFor(char kind) {
        switch (kind) {
            case 's':
                return random.nextInt(slots);
            case 'm':
            case 'b':
                return random.nextInt(4) == 0 ? random.nextInt(256) : random.nextInt(keys) % 256;
            case 'i':
                return random.nextInt(keys + 2) - 1;
            case 'e':
                return random.nextBoolean() ? random.nextInt(6) : random.nextInt(1001);
            case 'z':
                return random.nextInt(2147483646) + 1;
            default:
                return random.nextInt(40) == 0 ? random.nextInt(257) - 1 : random.nextInt(keys) - 1;
        }
    }
}
