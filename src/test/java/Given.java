import java.util.ArrayList;
import java.util.List;
import java.util.Map;
import java.util.TreeMap;
import java.util.function.IntUnaryOperator;

/**
 * Objects made from texts: a map is told as "1:10 2:-1", key:value, and a row of words in the same way, with -2 for a
 * word that takes its key away.
 */
final class Given {
    private Given() {
    }

    static Keywright object(String row, String... maps) {
        Keywright x = new Keywright();
        for (int slot = 0; slot < maps.length; slot++) {
            for (int[] pair : pairs(maps[slot])) {
                x.put(slot, pair[0], pair[1]);
            }
        }
        sayAll(x, row);
        return x;
    }

    static void sayAll(Keywright x, String row) {
        for (int[] word : pairs(row)) {
            if (word[1] == -2) {
                x.unsay(word[0]);
            } else {
                x.say(word[0], word[1]);
            }
        }
    }

    /** The map of the keys from the first to the last one, each with what is made of it. */
    static String keys(int first, int last, IntUnaryOperator valueOf) {
        StringBuilder text = new StringBuilder();
        for (int key = first; key <= last; key++) {
            text.append(key).append(':').append(valueOf.applyAsInt(key)).append(' ');
        }
        return text.toString().trim();
    }

    static String all(IntUnaryOperator valueOf) {
        return keys(-1, 255, valueOf);
    }

    /** The checksum that promise 49 asks for of this row and these maps. */
    static long sum(String row, String... maps) {
        List<Integer> parts = new ArrayList<>();
        for (int slot = 0; slot < 8; slot++) {
            Map<Integer, Integer> map = new TreeMap<>();
            for (int[] pair : pairs(slot < maps.length ? maps[slot] : "")) {
                map.put(pair[0], pair[1]);
            }
            parts.add(map.size());
            for (Map.Entry<Integer, Integer> entry : map.entrySet()) {
                parts.add(entry.getKey());
                parts.add(entry.getValue());
            }
        }
        List<int[]> words = pairs(row);
        parts.add(words.size());
        for (int[] word : words) {
            parts.add(word[0]);
            parts.add(word[1]);
        }
        long sum = 7;
        for (int part : parts) {
            sum = 31 * sum + part;
        }
        return sum;
    }

    /** The map of a slot as a text; it costs two calls a key, so it is for maps that are small. */
    static String told(Keywright x, int slot) {
        StringBuilder text = new StringBuilder();
        int size = x.size(slot);
        for (int index = 0; index < size; index++) {
            int key = x.keyAt(slot, index);
            text.append(index == 0 ? "" : " ").append(key).append(':').append(x.get(slot, key));
        }
        return text.toString();
    }

    /** The pairs of numbers of a text. */
    static List<int[]> pairs(String text) {
        List<int[]> pairs = new ArrayList<>();
        for (String pair : text.trim().split("\\s+")) {
            if (!pair.isEmpty()) {
                String[] parts = pair.split(":");
                pairs.add(new int[] {Integer.parseInt(parts[0]), Integer.parseInt(parts[1])});
            }
        }
        return pairs;
    }
}
