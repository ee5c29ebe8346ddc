import java.util.ArrayList;
import java.util.Arrays;
import java.util.List;
import java.util.Map;
import java.util.NoSuchElementException;
import java.util.TreeMap;

/** The document's words over a plain sorted map: no files, no log, power that fails by its rules. */
final class Model implements Face {
    private static final int NEVER = 3;

    private TreeMap<byte[], byte[]> map = new TreeMap<>(Arrays::compareUnsigned);
    private final List<TreeMap<byte[], byte[]>> snapshots = new ArrayList<>();
    private List<byte[][]> batch;
    private byte[] key = {};
    private byte[] value = {};
    private boolean on = true;
    private int commits;
    private int when = NEVER;

    Model() {
        dropSnapshots();
    }

    public int key(long w, int n, boolean fresh) {
        key = longer(fresh ? new byte[0] : key, w, n, 32);
        return key.length;
    }

    public int value(long w, int n, boolean fresh) {
        value = longer(fresh ? new byte[0] : value, w, n, 200);
        return value.length;
    }

    private static byte[] longer(byte[] row, long w, int n, int most) {
        if (n < 0 || n > 8 || row.length + n > most) {
            throw new IllegalArgumentException();
        }
        byte[] next = Arrays.copyOf(row, row.length + n);
        for (int i = 0; i < n; i++) {
            next[next.length - 1 - i] = (byte) (w >>> (8 * i));
        }
        return next;
    }

    public void begin() {
        mustBeOn();
        mustBe(batch == null);
        batch = new ArrayList<>();
    }

    public int put() {
        return change(value);
    }

    public int remove() {
        return change(null);
    }

    private int change(byte[] to) {
        mustBeOn();
        if (key.length == 0) {
            throw new IllegalArgumentException();
        }
        if (batch == null) {
            List<byte[][]> one = new ArrayList<>();
            one.add(new byte[][] {key, to});
            return done(one);
        }
        mustBe(batch.size() < 64);
        batch.add(new byte[][] {key, to});
        return batch.size();
    }

    public int commit() {
        mustBeOn();
        mustBe(batch != null);
        List<byte[][]> steps = batch;
        batch = null;
        return done(steps);
    }

    private int done(List<byte[][]> steps) {
        TreeMap<byte[], byte[]> next = copy(map);
        for (byte[][] step : steps) {
            if (step[1] == null) {
                next.remove(step[0]);
            } else {
                next.put(step[0], step[1]);
            }
        }
        mustBe(size(next) <= 16000);
        if (when == 0) {
            fail();
        }
        map = next;
        commits++;
        if (when == 1) {
            fail();
        }
        return size(map);
    }

    public int cancel() {
        mustBeOn();
        mustBe(batch != null);
        int steps = batch.size();
        batch = null;
        return steps;
    }

    public int snapshot() {
        mustBeOn();
        int s = snapshots.indexOf(null);
        mustBe(s >= 0);
        snapshots.set(s, copy(map));
        return s;
    }

    public void release(int s) {
        mustBeOn();
        if (s < 0 || s > 7 || snapshots.get(s) == null) {
            throw new NoSuchElementException();
        }
        snapshots.set(s, null);
    }

    public int get(int s) {
        byte[] found = seen(s).get(key);
        if (found == null) {
            return -1;
        }
        value = found;
        return value.length;
    }

    public int seek(int s, boolean behind) {
        return take(behind ? seen(s).higherEntry(key) : seen(s).ceilingEntry(key));
    }

    public int before(int s) {
        return take(seen(s).lowerEntry(key));
    }

    private int take(Map.Entry<byte[], byte[]> entry) {
        if (entry == null) {
            return -1;
        }
        key = entry.getKey();
        value = entry.getValue();
        return key.length;
    }

    public long bytes(boolean ofValue, int at) {
        if (at < 0 || at > 200) {
            throw new IllegalArgumentException();
        }
        byte[] row = ofValue ? value : key;
        long word = 0;
        for (int i = at; i < at + 8; i++) {
            word = word << 8 | (i < row.length ? row[i] & 255 : 0);
        }
        return word;
    }

    public void flush() {
        mustBeOn();
        upkeep();
    }

    public void compact() {
        mustBeOn();
        upkeep();
    }

    private void upkeep() {
        if (when == 2) {
            fail();
        }
    }

    public void power(int next, int k, int b) {
        if (next < 0 || next > 3 || k < 0 || k > 400 || b < 0 || b > 300) {
            throw new IllegalArgumentException();
        }
        when = next;
    }

    public int reopen() {
        off();
        upkeep();
        on = true;
        when = NEVER;
        return size(map);
    }

    public int told(int what) {
        switch (what) {
            case 0: return on ? 1 : 0;
            case 1: return on ? size(map) : 0;
            case 2: return on ? map.size() : 0;
            case 3: return batch == null ? -1 : batch.size();
            case 4: return bits();
            case 5: return commits;
            case 6: return key.length;
            case 7: return value.length;
            default: throw new IllegalArgumentException();
        }
    }

    private int bits() {
        int bits = 0;
        for (int s = 0; s < 8; s++) {
            bits |= snapshots.get(s) == null ? 0 : 1 << s;
        }
        return bits;
    }

    public long digest(int s) {
        List<byte[]> all = new ArrayList<>();
        for (Map.Entry<byte[], byte[]> entry : seen(s).entrySet()) {
            all.add(entry.getKey());
            all.add(entry.getValue());
        }
        return Due.digest(all.toArray(new byte[0][]));
    }

    public int check() {
        mustBeOn();
        return 0;
    }

    private TreeMap<byte[], byte[]> seen(int s) {
        mustBeOn();
        if (s == -1) {
            return map;
        }
        if (s < 0 || s > 7 || snapshots.get(s) == null) {
            throw new NoSuchElementException();
        }
        return snapshots.get(s);
    }

    private void mustBeOn() {
        mustBe(on);
    }

    private static void mustBe(boolean so) {
        if (!so) {
            throw new IllegalStateException();
        }
    }

    private void fail() {
        when = NEVER;
        off();
        throw new ArithmeticException();
    }

    private void off() {
        on = false;
        batch = null;
        dropSnapshots();
    }

    private void dropSnapshots() {
        snapshots.clear();
        for (int s = 0; s < 8; s++) {
            snapshots.add(null);
        }
    }

    private static TreeMap<byte[], byte[]> copy(TreeMap<byte[], byte[]> from) {
        TreeMap<byte[], byte[]> to = new TreeMap<>(Arrays::compareUnsigned);
        to.putAll(from);
        return to;
    }

    private static int size(TreeMap<byte[], byte[]> of) {
        int size = 0;
        for (Map.Entry<byte[], byte[]> entry : of.entrySet()) {
            size += 8 + entry.getKey().length + entry.getValue().length;
        }
        return size;
    }
}
