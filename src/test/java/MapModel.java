import java.math.BigInteger;
import java.util.ArrayDeque;
import java.util.ArrayList;
import java.util.Collections;
import java.util.Deque;
import java.util.HashMap;
import java.util.HashSet;
import java.util.List;
import java.util.Map;
import java.util.NoSuchElementException;
import java.util.Set;
import java.util.TreeMap;

/** The document told a second time, over java.util.HashMap and its views, null being none; it need not be fast. */
public final class MapModel {
    private record Kept(int slot, Map<Integer, Integer> map) {
    }

    private record Word(Integer key, Integer value, boolean isWriting) {
    }

    private final List<Map<Integer, Integer>> maps = new ArrayList<>();
    private final List<Word> words = new ArrayList<>();
    private final Deque<Kept> kept = new ArrayDeque<>();

    public MapModel() {
        for (int slot = 0; slot < 8; slot++) {
            maps.add(new HashMap<>());
        }
    }

    private static void slots(int... slots) {
        for (int slot : slots) {
            if (slot < 0 || slot > 7) {
                throw new IndexOutOfBoundsException();
            }
        }
    }

    private static void numbers(int... numbers) {
        for (int number : numbers) {
            within(number, -1, 255);
        }
    }

    private static void within(int number, int least, int most) {
        if (number < least || number > most) {
            throw new IllegalArgumentException();
        }
    }

    private static Integer in(int number) {
        return number == -1 ? null : Integer.valueOf(number);
    }

    private static int out(Integer number) {
        return number == null ? -1 : number;
    }

    private static int told(Map<Integer, Integer> map, Integer key) {
        return map.containsKey(key) ? out(map.get(key)) : -2;
    }

    private void keep(int slot) {
        kept.addLast(new Kept(slot, new HashMap<>(maps.get(slot))));
        if (kept.size() > 8) {
            kept.removeFirst();
        }
    }

    private int become(int to, Map<Integer, Integer> map) {
        keep(to);
        maps.set(to, map);
        return map.size();
    }

    private Map<Integer, Integer> copyOf(int slot) {
        return new HashMap<>(maps.get(slot));
    }

    public int put(int slot, int key, int value) {
        slots(slot);
        numbers(key, value);
        keep(slot);
        int had = told(maps.get(slot), in(key));
        maps.get(slot).put(in(key), in(value));
        return had;
    }

    public int putFirst(int slot, int key, int value) {
        slots(slot);
        numbers(key, value);
        keep(slot);
        int had = told(maps.get(slot), in(key));
        maps.get(slot).putIfAbsent(in(key), in(value));
        return had;
    }

    public int change(int slot, int key, int value) {
        slots(slot);
        numbers(key, value);
        keep(slot);
        int had = told(maps.get(slot), in(key));
        maps.get(slot).replace(in(key), in(value));
        return had;
    }

    public boolean changeIf(int slot, int key, int was, int value) {
        slots(slot);
        numbers(key, was, value);
        keep(slot);
        return maps.get(slot).replace(in(key), in(was), in(value));
    }

    public int take(int slot, int key) {
        slots(slot);
        numbers(key);
        keep(slot);
        int had = told(maps.get(slot), in(key));
        maps.get(slot).remove(in(key));
        return had;
    }

    public boolean takeIf(int slot, int key, int value) {
        slots(slot);
        numbers(key, value);
        keep(slot);
        return maps.get(slot).remove(in(key), in(value));
    }

    public int merge(int slot, int key, int value, char how) {
        slots(slot);
        numbers(key);
        within(value, 0, 255);
        within("+>x".indexOf(how), 0, 2);
        keep(slot);
        maps.get(slot).merge(in(key), value, (had, with) -> switch (how) {
            case '+' -> (had + with) % 256;
            case '>' -> Math.max(had, with);
            default -> null;
        });
        return told(maps.get(slot), in(key));
    }

    public int compute(int slot, int key, char how) {
        slots(slot);
        numbers(key);
        within("idfp".indexOf(how), 0, 3);
        keep(slot);
        Map<Integer, Integer> map = maps.get(slot);
        switch (how) {
            case 'i' -> map.compute(in(key), (k, v) -> v == null ? 0 : (v + 1) % 256);
            case 'd' -> map.compute(in(key), (k, v) -> v == null || v == 0 ? null : v - 1);
            case 'f' -> map.computeIfAbsent(in(key), k -> k == null ? 0 : k);
            default -> map.computeIfPresent(in(key), (k, v) -> v == 0 ? null : v * 2 % 256);
        }
        return told(map, in(key));
    }

    public int clear(int slot) {
        slots(slot);
        keep(slot);
        int had = maps.get(slot).size();
        maps.get(slot).clear();
        return had;
    }

    public int get(int slot, int key) {
        slots(slot);
        numbers(key);
        return told(maps.get(slot), in(key));
    }

    public int getOr(int slot, int key, int value) {
        slots(slot);
        numbers(key, value);
        return out(maps.get(slot).getOrDefault(in(key), in(value)));
    }

    public boolean has(int slot, int key) {
        slots(slot);
        numbers(key);
        return maps.get(slot).containsKey(in(key));
    }

    public boolean hasValue(int slot, int value) {
        slots(slot);
        numbers(value);
        return maps.get(slot).containsValue(in(value));
    }

    public int size(int slot) {
        slots(slot);
        return maps.get(slot).size();
    }

    public int kinds(int slot) {
        slots(slot);
        return new HashSet<>(maps.get(slot).values()).size();
    }

    private static List<Integer> ordered(Map<Integer, Integer> map) {
        List<Integer> keys = new ArrayList<>();
        for (Integer key : map.keySet()) {
            keys.add(out(key));
        }
        Collections.sort(keys);
        return keys;
    }

    public int keyAt(int slot, int index) {
        slots(slot);
        List<Integer> keys = ordered(maps.get(slot));
        if (index < 0 || index >= keys.size()) {
            throw new NoSuchElementException();
        }
        return keys.get(index);
    }

    public boolean isSame(int one, int other) {
        slots(one, other);
        return maps.get(one).equals(maps.get(other));
    }

    public boolean areSameKeys(int one, int other) {
        slots(one, other);
        return maps.get(one).keySet().equals(maps.get(other).keySet());
    }

    private static Map<Integer, Integer> timesOf(Map<Integer, Integer> map) {
        Map<Integer, Integer> times = new TreeMap<>();
        for (Integer value : map.values()) {
            times.merge(out(value), 1, Integer::sum);
        }
        return times;
    }

    public boolean areSameValues(int one, int other) {
        slots(one, other);
        return timesOf(maps.get(one)).equals(timesOf(maps.get(other)));
    }

    public int hash(int slot) {
        slots(slot);
        return maps.get(slot).hashCode();
    }

    public int keysHash(int slot) {
        slots(slot);
        return maps.get(slot).keySet().hashCode();
    }

    public int dropValue(int slot, int value) {
        slots(slot);
        numbers(value);
        keep(slot);
        int before = maps.get(slot).size();
        maps.get(slot).values().removeAll(Collections.singleton(in(value)));
        return before - maps.get(slot).size();
    }

    public int dropOdd(int slot) {
        slots(slot);
        keep(slot);
        int before = maps.get(slot).size();
        maps.get(slot).values().removeIf(value -> value != null && value % 2 != 0);
        return before - maps.get(slot).size();
    }

    public int shift(int slot, int by) {
        slots(slot);
        within(by, 0, 255);
        keep(slot);
        Map<Integer, Integer> before = copyOf(slot);
        maps.get(slot).replaceAll((key, value) -> value == null ? null : (value + by) % 256);
        before.entrySet().removeAll(maps.get(slot).entrySet());
        return before.size();
    }

    public int copy(int slot, int to) {
        slots(slot, to);
        return become(to, copyOf(slot));
    }

    public int join(int one, int other, int to) {
        slots(one, other, to);
        Map<Integer, Integer> map = copyOf(one);
        map.putAll(maps.get(other));
        return become(to, map);
    }

    public int less(int one, int other, int to) {
        slots(one, other, to);
        Map<Integer, Integer> map = copyOf(one);
        map.keySet().removeAll(copyOf(other).keySet());
        return become(to, map);
    }

    public int common(int one, int other, int to) {
        slots(one, other, to);
        Map<Integer, Integer> map = copyOf(one);
        map.keySet().retainAll(copyOf(other).keySet());
        return become(to, map);
    }

    public int alike(int one, int other, int to) {
        slots(one, other, to);
        Map<Integer, Integer> map = copyOf(one);
        map.entrySet().retainAll(copyOf(other).entrySet());
        return become(to, map);
    }

    private static Map<Integer, Integer> putBehind(Map<Integer, Integer> map, Map<Integer, Integer> other) {
        Map<Integer, Integer> result = new HashMap<>();
        for (Map.Entry<Integer, Integer> entry : other.entrySet()) {
            if (map.containsKey(entry.getValue())) {
                result.put(entry.getKey(), map.get(entry.getValue()));
            }
        }
        return result;
    }

    public int behind(int one, int other, int to) {
        slots(one, other, to);
        return become(to, putBehind(maps.get(other), maps.get(one)));
    }

    private static Map<Integer, Integer> turned(Map<Integer, Integer> map) {
        Map<Integer, Integer> result = new HashMap<>();
        for (Map.Entry<Integer, Integer> entry : map.entrySet()) {
            if (result.containsKey(entry.getValue())) {
                throw new UnsupportedOperationException();
            }
            result.put(entry.getValue(), entry.getKey());
        }
        return result;
    }

    public int turn(int slot, int to) {
        slots(slot, to);
        return become(to, turned(maps.get(slot)));
    }

    public int power(int slot, int exponent, int to) {
        slots(slot, to);
        within(exponent, 0, 1000);
        Map<Integer, Integer> power = new HashMap<>();
        for (Integer key : maps.get(slot).keySet()) {
            power.put(key, key);
        }
        for (int times = 0; times < exponent; times++) {
            power = putBehind(maps.get(slot), power);
        }
        return become(to, power);
    }

    public boolean isInto(int slot) {
        slots(slot);
        return maps.get(slot).keySet().containsAll(maps.get(slot).values());
    }

    public int fixed(int slot) {
        slots(slot);
        int found = 0;
        for (Map.Entry<Integer, Integer> entry : maps.get(slot).entrySet()) {
            found += out(entry.getKey()) == out(entry.getValue()) ? 1 : 0;
        }
        return found;
    }

    private List<Integer> way(int slot, int key) {
        slots(slot);
        numbers(key);
        if (!maps.get(slot).containsKey(in(key))) {
            throw new NoSuchElementException();
        }
        List<Integer> way = new ArrayList<>();
        Integer here = in(key);
        while (maps.get(slot).containsKey(here) && !way.contains(here)) {
            way.add(here);
            here = maps.get(slot).get(here);
        }
        return way;
    }

    public int steps(int slot, int key) {
        return way(slot, key).size();
    }

    public int ring(int slot, int key) {
        List<Integer> way = way(slot, key);
        Integer after = maps.get(slot).get(way.get(way.size() - 1));
        return maps.get(slot).containsKey(after) ? way.size() - way.indexOf(after) : 0;
    }

    public long order(int slot) {
        slots(slot);
        if (!isInto(slot)) {
            throw new UnsupportedOperationException();
        }
        turned(maps.get(slot));
        BigInteger least = BigInteger.ONE;
        for (Integer key : maps.get(slot).keySet()) {
            BigInteger length = BigInteger.valueOf(ring(slot, out(key)));
            least = least.divide(least.gcd(length)).multiply(length);
        }
        return least.longValueExact();
    }

    private int append(Word word) {
        if (words.size() == 60) {
            throw new IllegalStateException();
        }
        words.add(word);
        return words.size();
    }

    public int say(int key, int value) {
        numbers(key, value);
        return append(new Word(in(key), in(value), true));
    }

    public int unsay(int key) {
        numbers(key);
        return append(new Word(in(key), null, false));
    }

    public int hush() {
        int had = words.size();
        words.clear();
        return had;
    }

    public int stir(int seed) {
        within(seed, 1, 2147483646);
        BigInteger z = BigInteger.valueOf(seed);
        int changes = 0;
        for (int times = 0; times < words.size(); times++) {
            z = z.multiply(BigInteger.valueOf(48271)).mod(BigInteger.valueOf(2147483647));
            int k = z.mod(BigInteger.valueOf(words.size())).intValue();
            if (k < words.size() - 1 && out(words.get(k).key()) != out(words.get(k + 1).key())) {
                Collections.swap(words, k, k + 1);
                changes++;
            }
        }
        return changes;
    }

    private static void doIt(Word word, Map<Integer, Integer> map) {
        if (word.isWriting()) {
            map.put(word.key(), word.value());
        } else {
            map.remove(word.key());
        }
    }

    private static void disturb(Map<Integer, Integer> map) {
        Map<Integer, Integer> before = new HashMap<>(map);
        for (int key = 0; key < 32; key++) {
            map.put(key, null);
        }
        for (int key = 0; key < 32; key++) {
            map.remove(key);
            if (before.containsKey(key)) {
                map.put(key, before.get(key));
            }
        }
    }

    public int play(int to) {
        slots(to);
        Map<Integer, Integer> map = new HashMap<>();
        for (Word word : words) {
            doIt(word, map);
        }
        return become(to, map);
    }

    private List<Word> last() {
        List<Word> last = new ArrayList<>();
        Set<Integer> seen = new HashSet<>();
        for (int index = words.size() - 1; index >= 0; index--) {
            if (seen.add(words.get(index).key())) {
                last.add(words.get(index));
            }
        }
        return last;
    }

    public int playLast(int to, boolean isNoisy) {
        slots(to);
        Map<Integer, Integer> map = new HashMap<>();
        for (Word word : last()) {
            if (isNoisy) {
                disturb(map);
            }
            doIt(word, map);
        }
        return become(to, map);
    }

    public int lastWords() {
        return last().size();
    }

    public int undo() {
        if (kept.isEmpty()) {
            throw new NoSuchElementException();
        }
        Kept latest = kept.removeLast();
        maps.set(latest.slot(), latest.map());
        return latest.slot();
    }

    public float share(int slot) {
        slots(slot);
        if (maps.get(slot).isEmpty()) {
            throw new ArithmeticException();
        }
        return (float) fixed(slot) / (float) maps.get(slot).size();
    }

    public double meanSize() {
        int sum = 0;
        for (Map<Integer, Integer> map : maps) {
            sum += map.size();
        }
        return (double) sum / 8.0;
    }

    public long checksum() {
        List<Long> parts = new ArrayList<>();
        for (Map<Integer, Integer> map : maps) {
            parts.add((long) map.size());
            for (int key : ordered(map)) {
                parts.add((long) key);
                parts.add((long) told(map, in(key)));
            }
        }
        parts.add((long) words.size());
        for (Word word : words) {
            parts.add((long) out(word.key()));
            parts.add(word.isWriting() ? (long) out(word.value()) : -2L);
        }
        long sum = 7;
        for (long part : parts) {
            sum = 31 * sum + part;
        }
        return sum;
    }

    public boolean isSound() {
        return true;
    }
}
