import java.io.ByteArrayOutputStream;
import java.lang.reflect.Array;
import java.nio.ByteBuffer;
import java.util.ArrayList;
import java.util.HashMap;
import java.util.LinkedHashMap;
import java.util.LinkedHashSet;
import java.util.List;
import java.util.Map;
import java.util.Set;
import java.util.TreeSet;

/**
 * The document once more, by other means: recursion, collections, real arrays with what the machine throws.
 * It is slow and makes many objects; ModelTest runs it beside the class.
 */
final class Model {
    static final class Known {
        int kind;
        long value;
        boolean checked, dropped;
        final Map<Integer, int[]> things = new LinkedHashMap<>();
        final Set<Integer> facts = new LinkedHashSet<>();
    }

    /** Where a wrong item stands. */
    private static final class Wrong extends Exception {
        private static final long serialVersionUID = 1L;
        final int at;

        Wrong(int at) {
            this.at = at;
        }
    }

    private final int[][] things = new int[16][2];
    private final List<Known> facts = new ArrayList<>();
    private final Set<Integer> toldThings = new LinkedHashSet<>(), toldFacts = new LinkedHashSet<>();
    private final byte[] disk = new byte[3532];
    private int generation, rows, used, head = -4;
    private final int[] wrongRow = {-4, -4};
    private boolean dark;
    private Object out, shelf;

    private static boolean out(int number, int bound) {
        return number < 0 || number >= bound;
    }

    int change(int thing, int d) {
        if (dark) return -5;
        if (out(thing, 16)) return -1;
        things[thing][0] = d;
        things[thing][1]++;
        int were = 0;
        for (Known k : facts) {
            if (k.checked && restsOn(k, thing)) {
                k.checked = false;
                were++;
            }
        }
        return were;
    }

    private boolean restsOn(Known k, int thing) {
        return k.things.containsKey(thing) || k.facts.stream().anyMatch(f -> restsOn(facts.get(f), thing));
    }

    int thing(int thing, int what) {
        return dark ? -5 : out(thing, 16) || out(what, 2) ? -1 : things[thing][what];
    }

    int rest(int thing) {
        return dark ? -5 : tell(toldThings, thing, 16, 4);
    }

    int lean(int fact) {
        return dark ? -5 : tell(toldFacts, fact, facts.size(), 3);
    }

    private static int tell(Set<Integer> told, int number, int bound, int most) {
        if (out(number, bound)) return -1;
        if (told.size() == most && !told.contains(number)) return -3;
        told.add(number);
        return told.size();
    }

    int fact(int kind, long value) {
        if (dark) return -5;
        if (out(kind, 4)) return -1;
        if (facts.size() == 60) return -3;
        Known k = new Known();
        k.kind = kind;
        k.value = value;
        for (int thing : toldThings) k.things.put(thing, things[thing].clone());
        k.facts.addAll(toldFacts);
        facts.add(k);
        toldThings.clear();
        toldFacts.clear();
        return facts.size() - 1;
    }

    private boolean fresh(Known k) {
        return k.things.entrySet().stream().allMatch(e -> {
            int[] now = things[e.getKey()];
            boolean like = now[0] == e.getValue()[0];
            long since = (long) now[1] - e.getValue()[1];
            if (k.kind == 2) return like || since == 0 || since == 1 || since == 2;
            return k.kind == 3 ? like && since == 0 : like;
        });
    }

    private boolean usable(Known k) {
        return !k.dropped && (k.checked || fresh(k)) && groundUsable(k);
    }

    private boolean groundUsable(Known k) {
        return k.facts.stream().allMatch(f -> usable(facts.get(f)));
    }

    int check(int fact) {
        if (dark) return -5;
        if (out(fact, facts.size())) return -1;
        Known k = facts.get(fact);
        if (k.dropped || !groundUsable(k)) return -2;
        boolean holds = k.kind == 1 ? k.value == k.facts.stream().mapToLong(f -> facts.get(f).value).sum() : fresh(k);
        if (holds) k.checked = true;
        else k.dropped = true;
        return holds ? 1 : 0;
    }

    int drop(int fact) {
        if (dark) return -5;
        if (out(fact, facts.size())) return -1;
        if (facts.get(fact).dropped) return -2;
        facts.get(fact).dropped = true;
        return 1;
    }

    int usable(int fact) {
        return dark ? -5 : out(fact, facts.size()) ? -1 : usable(facts.get(fact)) ? 1 : 0;
    }

    int of(int fact, int what) {
        if (dark) return -5;
        if (out(fact, facts.size())) return -1;
        Known k = facts.get(fact);
        Map<Integer, Integer> all = new HashMap<>();
        all.put(0, k.kind);
        all.put(1, k.checked ? 1 : 0);
        all.put(2, k.dropped ? 1 : 0);
        all.put(3, fresh(k) ? 1 : 0);
        all.put(4, k.things.size());
        all.put(5, k.facts.size());
        all.put(6, fact < rows ? 1 : 0);
        int i = 0;
        for (Map.Entry<Integer, int[]> e : k.things.entrySet()) {
            all.put(10 + i, e.getKey());
            all.put(20 + i, e.getValue()[0]);
            all.put(30 + i, e.getValue()[1]);
            i++;
        }
        i = 40;
        for (int f : k.facts) all.put(i++, f);
        return all.getOrDefault(what, -1);
    }

    long value(int fact) {
        return dark || out(fact, facts.size()) ? 0 : facts.get(fact).value;
    }

    private static byte[] row(Known k, List<Integer> numbers) {
        ByteBuffer b = ByteBuffer.allocate(100);
        b.put((byte) k.kind).putLong(k.value).put((byte) k.things.size());
        k.things.forEach((thing, then) -> b.put(thing.byteValue()).putInt(then[0]).putInt(then[1]));
        b.put((byte) k.facts.size());
        for (int f : k.facts) b.put((byte) numbers.indexOf(f));
        byte[] all = new byte[b.position()];
        b.rewind().get(all);
        return all;
    }

    static long sum(long s, byte[] bytes, int from, int to) {
        for (int i = from; i < to; i++) s = Long.rotateLeft(s ^ Byte.toUnsignedInt(bytes[i]), 7) * 0x9E3779B97F4A7C15L;
        return s;
    }

    private List<Integer> allNumbers() {
        List<Integer> all = new ArrayList<>();
        for (int i = 0; i < facts.size(); i++) all.add(i);
        return all;
    }

    int save(int power) {
        if (dark) return -5;
        if (power < 0) return -1;
        ByteBuffer log = ByteBuffer.allocate(4000);
        long s = 1;
        for (Known k : facts) {
            byte[] row = row(k, allNumbers());
            s = sum(s, row, 0, row.length);
            log.put(row).putLong(s);
        }
        if (log.position() > 3500) return -3;
        ByteBuffer top = ByteBuffer.allocate(16).putInt(generation + 1).putInt(facts.size());
        top.putLong(sum(s, top.array(), 0, 8));
        int written = 0;
        for (int i = used; i < log.position() && written < power; i++, written++) disk[i] = log.get(i);
        int place = 3500 + 16 * Math.floorMod(generation + 1, 2);
        for (int i = 0; i < 16 && written < power; i++, written++) disk[place + i] = top.get(i);
        dark = written < log.position() - used + 16;
        if (!dark) {
            generation++;
            rows = facts.size();
            used = log.position();
        }
        return written;
    }

    int open() {
        ByteBuffer all = ByteBuffer.wrap(disk);
        List<Known> best = new ArrayList<>();
        head = -4;
        generation = 0;
        used = 0;
        for (int h = 0; h < 2; h++) {
            int place = 3500 + 16 * h;
            int told = all.getInt(place + 4);
            wrongRow[h] = 60;
            if (told < 0 || told > 60) continue;
            List<Known> found = new ArrayList<>();
            int at = 0;
            long s = 1;
            wrongRow[h] = -4;
            for (int r = 0; r < told && wrongRow[h] == -4; r++) {
                int from = at;
                try {
                    Known k = new Known();
                    at = readRow(i -> i < 3500 ? Byte.toUnsignedInt(disk[i]) : -1, at, r, k);
                    s = sum(s, disk, from, at);
                    if (at + 8 > 3500 || all.getLong(at) != s) wrongRow[h] = r;
                    at += 8;
                    found.add(k);
                } catch (Wrong e) {
                    wrongRow[h] = r;
                }
            }
            if (wrongRow[h] != -4 || sum(s, disk, place, place + 8) != all.getLong(place + 8)) continue;
            if (head == 0 && all.getInt(place) <= generation) continue;
            head = h;
            generation = all.getInt(place);
            used = at;
            best = found;
        }
        facts.clear();
        facts.addAll(best);
        rows = best.size();
        toldThings.clear();
        toldFacts.clear();
        dark = false;
        return rows;
    }

    private interface Source {
        int at(int i);
    }

    private static int want(Source source, int at, int most) throws Wrong {
        int b = source.at(at);
        if (b < 0 || b > most) throw new Wrong(at);
        return b;
    }

    private static long number(Source source, int at, int size) throws Wrong {
        long n = 0;
        for (int i = 0; i < size; i++) n = n * 256 + want(source, at + i, 255);
        return n;
    }

    private static int readRow(Source source, int at, int row, Known k) throws Wrong {
        k.kind = want(source, at++, 3);
        k.value = number(source, at, 8);
        at += 8;
        int n = want(source, at++, 4);
        for (int i = 0; i < n; i++) {
            int thing = want(source, at, 15);
            if (k.things.containsKey(thing)) throw new Wrong(at);
            k.things.put(thing, new int[] {(int) number(source, at + 1, 4), (int) number(source, at + 5, 4)});
            at += 9;
        }
        n = want(source, at++, 3);
        for (int i = 0; i < n; i++) {
            if (!k.facts.add(want(source, at, row - 1))) throw new Wrong(at);
            at++;
        }
        return at;
    }

    int disk(int place) {
        return Byte.toUnsignedInt(disk[place]);
    }

    int poke(int place, int mask) {
        disk[place] = (byte) (disk[place] ^ mask);
        return disk(place);
    }

    int told(int what) {
        int[] all = {facts.size(), generation, rows, used, head, dark ? 1 : 0, wrongRow[0], wrongRow[1]};
        return out(what, 8) ? -1 : all[what];
    }

    private void gather(int fact, Set<Integer> into) {
        into.add(fact);
        for (int f : facts.get(fact).facts) gather(f, into);
    }

    int pack(int fact, boolean wide) {
        if (dark) return -5;
        if (out(fact, facts.size())) return -1;
        Set<Integer> inside = new TreeSet<>();
        gather(fact, inside);
        List<Integer> numbers = new ArrayList<>(inside);
        ByteArrayOutputStream bytes = new ByteArrayOutputStream();
        bytes.write(numbers.size());
        for (int f : numbers) bytes.writeBytes(row(facts.get(f), numbers));
        bytes.write((int) sum(7, bytes.toByteArray(), 0, bytes.size()));
        byte[] all = bytes.toByteArray();
        int[] ints = new int[all.length];
        for (int i = 0; i < all.length; i++) ints[i] = all[i] & 255;
        out = wide ? ints : all;
        return all.length;
    }

    int take() {
        if (dark) return -5;
        if (out == null) return -11;
        int length = Array.getLength(out);
        Source source = i -> i < length ? item(i) : -1;
        List<Known> come = new ArrayList<>();
        try {
            int n = want(source, 0, 60);
            int at = 1;
            for (int r = 0; r < n; r++) {
                Known k = new Known();
                at = readRow(source, at, r, k);
                come.add(k);
            }
            byte[] ahead = new byte[at];
            for (int i = 0; i < at; i++) ahead[i] = (byte) source.at(i);
            if (want(source, at, 255) != (sum(7, ahead, 0, at) & 255)) throw new Wrong(at);
            if (at + 1 < length) throw new Wrong(at + 1);
        } catch (Wrong e) {
            return -100 - e.at;
        }
        int here = facts.size();
        if (here + come.size() > 60) return -3;
        for (Known k : come) {
            List<Integer> numbers = new ArrayList<>(k.facts);
            k.facts.clear();
            for (int f : numbers) k.facts.add(here + f);
            facts.add(k);
        }
        return come.size();
    }

    int shelf(int kind, int n) {
        if (dark) return -5;
        if (out(kind, 2) || n > 4000) return -1;
        try {
            shelf = kind == 0 ? new byte[n] : new int[n];
        } catch (NegativeArraySizeException e) {
            return -14;
        }
        return n;
    }

    int swap() {
        if (dark) return -5;
        Object was = out;
        out = shelf;
        shelf = was;
        return out == null ? 0 : out instanceof byte[] ? 1 : 2;
    }

    int move(int i, int j, int n) {
        if (dark) return -5;
        try {
            System.arraycopy(out, i, shelf, j, n);
        } catch (NullPointerException e) {
            return -11;
        } catch (ArrayStoreException e) {
            return -13;
        } catch (IndexOutOfBoundsException e) {
            return -12;
        }
        return n;
    }

    int item(int i) {
        if (dark) return -5;
        try {
            if (i == -1) return Array.getLength(out);
            return out instanceof byte[] ? Array.getByte(out, i) & 255 : Array.getInt(out, i);
        } catch (NullPointerException e) {
            return -11;
        } catch (ArrayIndexOutOfBoundsException e) {
            return -12;
        }
    }

    int set(int i, int v) {
        if (dark) return -5;
        try {
            if (out instanceof byte[]) Array.setByte(out, i, (byte) v);
            else Array.setInt(out, i, v);
        } catch (NullPointerException e) {
            return -11;
        } catch (ArrayIndexOutOfBoundsException e) {
            return -12;
        }
        return 1;
    }
}
