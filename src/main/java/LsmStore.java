import java.util.Arrays;
import java.util.NoSuchElementException;

/**
 * A store of keys and values on a disk of its own, which is a row of bytes: what is committed goes
 * into a log, the log goes into sorted files, and files of three levels are put together.
 * All that must last stands on the disk alone; reopen makes everything else anew from it.
 */
public final class LsmStore {
    private static final int MOST_KEY = 32;
    private static final int MOST_VALUE = 200;
    private static final int MOST_SIZE = 16000;
    private static final int MOST_STEPS = 64;
    private static final int MOST_VIEWS = 8;
    private static final int MOST_WRITE = 400;
    private static final int MOST_CUT = 300;
    private static final int WORD = 8;

    private static final int NONE = -1;

    /* A view sees the commits up to its own number; numbers start at 1. */
    private static final int NEWEST = 0x7FFFFFFF;
    private static final int OLDEST = 0;

    /* An entry: kind, bytes of key, bytes of value, 0, number of its commit (4), key, value. */
    private static final int PUT = 1;
    private static final int REMOVE = 2;
    private static final int ENTRY_HEAD = 8;
    private static final int COMMIT_AT = 4;

    /* A record of the log: bytes of its entries (2), the entries, the mark that makes it lasting. */
    private static final int RECORD_HEAD = 2;
    private static final int MARK = 0xA5;
    private static final int MOST_RECORD =
        RECORD_HEAD + MOST_STEPS * (ENTRY_HEAD + MOST_KEY + MOST_VALUE) + 1;

    /* The disk: two places for the head, two for the log, then the blocks of files. */
    private static final int BLOCK = 512;
    private static final int HEAD_BLOCKS = 4;
    private static final int HEAD_BYTES = HEAD_BLOCKS * BLOCK;
    private static final int LOG_BLOCKS = 36;
    private static final int LOG_BYTES = LOG_BLOCKS * BLOCK;
    private static final int LOG_AT = 2 * HEAD_BYTES;
    private static final int FIRST_FILE_BLOCK = 2 * HEAD_BLOCKS + 2 * LOG_BLOCKS;
    /*
     * Reckoned: 512 calls change some 250 entries at most, or 170 with a flush behind each, so some
     * 340 blocks are in use at most and 130 more while all are put together. The most seen in trials: 283.
     */
    private static final int FILE_BLOCKS = 512;
    private static final int DISK_BYTES = (FIRST_FILE_BLOCK + FILE_BLOCKS) * BLOCK;

    /* The log is full long before its place ends, so that the largest batch always finds room. */
    private static final int LOG_FULL = 2048;
    private static final int MOST_ROWS = 2048;

    private static final int LEVELS = 3;
    private static final int LAST_LEVEL = LEVELS - 1;
    private static final int[] LEVEL_FULL = {10, 25};
    private static final int FULL_BLOCKS = 4;
    /* Nine versions of one key may follow on a table that is nearly full; the last is its filter. */
    private static final int TABLE_BLOCKS = 9;
    private static final int MOST_TABLES = 256;

    private static final int FILTER_BITS = BLOCK * 8;
    private static final int FILTER_PROBES = 4;

    /* Far above what any walk over the store can need. */
    private static final int MOST_WALK = 1000000;

    private final Disk disk = new Disk();
    private final Row theKey = new Row(MOST_KEY);
    private final Row theValue = new Row(MOST_VALUE);
    private final Row probe = new Row(MOST_KEY);
    private final Batch batch = new Batch();
    private final Views views = new Views();
    private final Log log = new Log(disk);
    private final Files files = new Files(disk);
    private final Level[] levels = new Level[LEVELS];
    private final Rows rows = new Rows(disk);
    private final Writer writer = new Writer(disk, files);
    private final Head head = new Head(disk);
    private int size;
    private int keys;
    private int commits;
    private int nextSize;
    private int nextKeys;
    private int turn;

    public LsmStore() {
        for (int i = 0; i < LEVELS; i++) {
            levels[i] = new Level(disk);
        }
    }

    public int key(long w, int n, boolean fresh) throws IllegalArgumentException {
        if (!theKey.accepts(n, fresh)) {
            throw new IllegalArgumentException("a key takes 0 to 8 bytes at once, 32 in all");
        }
        return theKey.append(w, n, fresh);
    }

    public int value(long w, int n, boolean fresh) throws IllegalArgumentException {
        if (!theValue.accepts(n, fresh)) {
            throw new IllegalArgumentException("a value takes 0 to 8 bytes at once, 200 in all");
        }
        return theValue.append(w, n, fresh);
    }

    public void begin() throws IllegalStateException {
        requireOn();
        if (batch.open) {
            throw new IllegalStateException("a batch is open");
        }
        batch.start();
        batch.open = true;
    }

    public int put() throws IllegalStateException, IllegalArgumentException, ArithmeticException {
        addStep(PUT);
        return batch.open ? batch.steps : finish();
    }

    public int remove() throws IllegalStateException, IllegalArgumentException, ArithmeticException {
        addStep(REMOVE);
        return batch.open ? batch.steps : finish();
    }

    public int commit() throws IllegalStateException, ArithmeticException {
        requireBatch();
        batch.open = false;
        return finish();
    }

    public int cancel() throws IllegalStateException {
        requireBatch();
        batch.open = false;
        return batch.steps;
    }

    public int snapshot() throws IllegalStateException {
        requireOn();
        int s = views.take(commits);
        if (s == NONE) {
            throw new IllegalStateException("there are eight snapshots");
        }
        return s;
    }

    public void release(int s) throws IllegalStateException, NoSuchElementException {
        requireOn();
        if (!views.has(s)) {
            throw new NoSuchElementException("no such snapshot");
        }
        views.drop(s);
    }

    public int get(int s) throws IllegalStateException, NoSuchElementException {
        int view = viewOf(s);
        int at = find(theKey, view);
        if (disk.kind(at) != PUT) {
            return NONE;
        }
        disk.copyValue(at, theValue);
        return theValue.length;
    }

    public int seek(int s, boolean behind) throws IllegalStateException, NoSuchElementException {
        int view = viewOf(s);
        return take(nearest(view, behind ? OLDEST : NEWEST));
    }

    public int before(int s) throws IllegalStateException, NoSuchElementException {
        int view = viewOf(s);
        return take(nearestBefore(view));
    }

    public long bytes(boolean value, int at) throws IllegalArgumentException {
        if (at < 0 || at > MOST_VALUE) {
            throw new IllegalArgumentException("a byte's place is 0 to 200");
        }
        return value ? theValue.word(at) : theKey.word(at);
    }

    public void flush() throws IllegalStateException, ArithmeticException {
        requireOn();
        disk.enter(Disk.UPKEEP);
        settle(0);
        disk.leave();
    }

    public void compact() throws IllegalStateException, ArithmeticException {
        requireOn();
        disk.enter(Disk.UPKEEP);
        for (int i = 0; i < LEVELS; i++) {
            levels[i].pickAll();
        }
        join(LAST_LEVEL, log.used > 0);
        disk.leave();
    }

    public void power(int when, int k, int b) throws IllegalArgumentException {
        if (when < Disk.CUT || when > Disk.NEVER || k < 0 || k > MOST_WRITE || b < 0 || b > MOST_CUT) {
            throw new IllegalArgumentException("when is 0 to 3, k 0 to 400, b 0 to 300");
        }
        disk.plan(when, k, b);
    }

    public int reopen() throws ArithmeticException {
        batch.open = false;
        views.clear();
        load();
        recount();
        disk.on = true;
        disk.enter(Disk.UPKEEP);
        /* A record that was cut may stand behind the log's end: nothing may be written behind it. */
        settle(NONE);
        disk.leave();
        disk.plan(Disk.NEVER, 0, 0);
        return size;
    }

    public int told(int what) throws IllegalArgumentException {
        boolean on = disk.on;
        switch (what) {
            case 0: return on ? 1 : 0;
            case 1: return on ? size : 0;
            case 2: return on ? keys : 0;
            case 3: return on && batch.open ? batch.steps : NONE;
            case 4: return on ? views.bits() : 0;
            case 5: return commits;
            case 6: return theKey.length;
            case 7: return theValue.length;
            default: throw new IllegalArgumentException("what is told is 0 to 7");
        }
    }

    public long digest(int s) throws IllegalStateException, NoSuchElementException {
        int view = viewOf(s);
        gatherAll();
        long sum = 7;
        int at = rows.firstSeen(0, view);
        for (int i = 0; i < MOST_ROWS && at != NONE; i++) {
            sum = disk.mix(sum, rows.list[at]);
            at = rows.firstSeen(at + 1, view);
        }
        return sum;
    }

    public int check() throws IllegalStateException {
        requireOn();
        int wrong = files.strayBlocks(levels);
        for (int i = 0; i < LEVELS; i++) {
            wrong += levels[i].overlaps() + levels[i].faults();
        }
        return wrong;
    }

    private void requireOn() {
        if (!disk.on) {
            throw new IllegalStateException("it is off");
        }
    }

    private void requireBatch() {
        requireOn();
        if (!batch.open) {
            throw new IllegalStateException("no batch is open");
        }
    }

    private int viewOf(int s) {
        requireOn();
        if (s == NONE) {
            return NEWEST;
        }
        if (!views.has(s)) {
            throw new NoSuchElementException("no such snapshot");
        }
        return views.commits[s];
    }

    /* A put or remove without a batch is done as a batch of one. */
    private void addStep(int kind) {
        requireOn();
        if (theKey.length == 0) {
            throw new IllegalArgumentException("the key is empty");
        }
        if (!batch.open) {
            batch.start();
        }
        if (batch.steps >= MOST_STEPS) {
            throw new IllegalStateException("the batch is full");
        }
        batch.add(kind, theKey, theValue);
    }

    private int finish() {
        weigh();
        if (nextSize > MOST_SIZE) {
            throw new IllegalStateException("the map would be larger than 16000");
        }
        if (!log.hasRoom(batch)) {
            throw new IllegalStateException("the disk is full");
        }
        disk.enter(Disk.COMMIT);
        batch.seal(commits + 1);
        log.append(batch);
        commits++;
        size = nextSize;
        keys = nextKeys;
        settle(LOG_FULL);
        disk.leave();
        return size;
    }

    private void weigh() {
        nextSize = size;
        nextKeys = keys;
        for (int i = 0; i < batch.steps; i++) {
            if (batch.isLastOfItsKey(i)) {
                batch.copyKey(i, probe);
                int old = find(probe, NEWEST);
                if (disk.kind(old) == PUT) {
                    nextSize -= disk.entryLength(old);
                    nextKeys--;
                }
                if (batch.kind(i) == PUT) {
                    nextSize += batch.entryLength(i);
                    nextKeys++;
                }
            }
        }
    }

    private int take(int at) {
        if (at == NONE) {
            return NONE;
        }
        disk.copyKey(at, theKey);
        disk.copyValue(at, theValue);
        return theKey.length;
    }

    /* What stands higher is newer, so the first that has the key has its newest version. */
    private int find(Row row, int view) {
        int at = log.find(row, view);
        for (int i = 0; i < LEVELS && at == NONE; i++) {
            at = levels[i].find(row, view);
        }
        return at;
    }

    private int nearest(int view, int edge) {
        probe.copy(theKey.cells, 0, theKey.length);
        int from = edge;
        for (int i = 0; i < MOST_WALK; i++) {
            int at = firstFrom(probe, from);
            if (at == NONE) {
                return NONE;
            }
            disk.copyKey(at, probe);
            int seen = find(probe, view);
            if (disk.kind(seen) == PUT) {
                return seen;
            }
            from = OLDEST;
        }
        return NONE;
    }

    private int nearestBefore(int view) {
        probe.copy(theKey.cells, 0, theKey.length);
        for (int i = 0; i < MOST_WALK; i++) {
            int at = lastBefore(probe);
            if (at == NONE) {
                return NONE;
            }
            disk.copyKey(at, probe);
            int seen = find(probe, view);
            if (disk.kind(seen) == PUT) {
                return seen;
            }
        }
        return NONE;
    }

    private int firstFrom(Row row, int view) {
        int best = log.from(row, view);
        for (int i = 0; i < LEVELS; i++) {
            int at = levels[i].from(row, view);
            if (at != NONE && (best == NONE || disk.order(at, best) < 0)) {
                best = at;
            }
        }
        return best;
    }

    private int lastBefore(Row row) {
        int best = log.lastBefore(row);
        for (int i = 0; i < LEVELS; i++) {
            int at = levels[i].lastBefore(row);
            if (at != NONE && (best == NONE || disk.order(at, best) > 0)) {
                best = at;
            }
        }
        return best;
    }

    private void load() {
        files.clear();
        for (int i = 0; i < LEVELS; i++) {
            levels[i].clear();
        }
        head.load(levels, files);
        log.open(head.area);
        commits = head.commits + log.replay();
    }

    private void recount() {
        gatherAll();
        size = 0;
        keys = 0;
        int at = rows.firstSeen(0, NEWEST);
        for (int i = 0; i < MOST_ROWS && at != NONE; i++) {
            size += disk.entryLength(rows.list[at]);
            keys++;
            at = rows.firstSeen(at + 1, NEWEST);
        }
    }

    private void settle(int limit) {
        if (log.used > limit) {
            pickNone();
            levels[0].pickOver(log.first(), log.last());
            join(0, true);
        }
        for (int i = 0; i < LAST_LEVEL; i++) {
            boolean joined = true;
            for (int n = 0; n < MOST_TABLES && joined && levels[i].blocks() > LEVEL_FULL[i]; n++) {
                pickNone();
                int one = Math.floorMod(turn, Math.max(1, levels[i].count));
                turn++;
                levels[i].pickOne(one);
                levels[i + 1].pickOver(levels[i].firstOf(one), levels[i].lastOf(one));
                joined = join(i + 1, false);
            }
        }
    }

    private void pickNone() {
        for (int i = 0; i < LEVELS; i++) {
            levels[i].pickNone();
        }
    }

    /* The old files go only behind the write of the new head: till then it is they that count. */
    private boolean join(int target, boolean withLog) {
        gather(withLog);
        rows.thin(views, target == LAST_LEVEL);
        if (!rows.whole || !writer.hasRoom(rows)) {
            return false;
        }
        writer.store(rows);
        for (int i = 0; i < LEVELS; i++) {
            levels[i].cut(files);
        }
        levels[target].insert(writer.made, writer.count);
        if (withLog) {
            log.clearOther();
        }
        head.install(withLog ? log.other() : log.area, withLog ? commits : head.commits, levels);
        files.freeRetired();
        if (withLog) {
            log.change();
        }
        return true;
    }

    private void gatherAll() {
        for (int i = 0; i < LEVELS; i++) {
            levels[i].pickAll();
        }
        gather(true);
    }

    private void gather(boolean withLog) {
        rows.clear();
        if (withLog) {
            log.collect(rows);
        }
        for (int i = 0; i < LEVELS; i++) {
            int middle = rows.count;
            levels[i].collect(rows);
            rows.blend(middle);
        }
    }

    /** A row of bytes that is put together, or told. */
    private static final class Row {
        private final byte[] cells;
        private int length;

        Row(int most) {
            cells = new byte[Math.max(0, most)];
        }

        boolean accepts(int n, boolean fresh) {
            return n >= 0 && n <= WORD && (fresh ? 0 : length) + n <= cells.length;
        }

        int append(long w, int n, boolean fresh) {
            if (fresh) {
                length = 0;
            }
            for (int i = n - 1; i >= 0 && length >= 0 && length < cells.length; i--) {
                cells[length] = (byte) (w >> (8 * i));
                length++;
            }
            return length;
        }

        long word(int at) {
            long word = 0;
            for (int i = at; i < at + WORD; i++) {
                int cell = i >= 0 && i < length && i < cells.length ? cells[i] & 255 : 0;
                word = word << 8 | cell;
            }
            return word;
        }

        void copy(byte[] from, int start, int count) {
            if (start >= 0 && count >= 0 && count <= cells.length && start <= from.length - count) {
                System.arraycopy(from, start, cells, 0, count);
                length = count;
            }
        }
    }

    /** The bytes that last, and the power that may fail in each write of them. */
    private static final class Disk {
        private static final int CUT = 0;
        private static final int BEHIND = 1;
        private static final int IN_UPKEEP = 2;
        private static final int NEVER = 3;
        private static final boolean COMMIT = true;
        private static final boolean UPKEEP = false;

        /* Two blocks that nothing writes let any entry's fields be read from any place before. */
        private final byte[] cells = new byte[DISK_BYTES + 2 * BLOCK];
        private final byte[] blank = new byte[BLOCK];
        private boolean on = true;
        private int when = NEVER;
        private int left;
        private int cut;
        private boolean due;
        private boolean counting;

        void plan(int next, int k, int b) {
            when = next;
            left = k;
            cut = b;
        }

        void enter(boolean commit) {
            due = commit ? when == CUT || when == BEHIND : when == IN_UPKEEP;
            counting = !commit && due;
        }

        void leave() {
            if (due) {
                goOff();
                throw new ArithmeticException("power failed");
            }
        }

        void write(int at, byte[] from, int start, int length, boolean lasting) {
            boolean fails = false;
            int reached = length;
            if (due && lasting && when == CUT) {
                reached = Math.min(cut, length - 1);
                fails = true;
            } else if (counting && left == 0) {
                reached = Math.min(cut, length);
                fails = true;
            } else if (counting) {
                left--;
            }
            if (at >= 0 && start >= 0 && reached > 0
                    && at <= DISK_BYTES - reached && start <= from.length - reached) {
                System.arraycopy(from, start, cells, at, reached);
            }
            if (fails) {
                goOff();
                throw new ArithmeticException("power failed");
            }
            counting = counting || due && lasting;
        }

        void erase(int at) {
            write(at, blank, 0, BLOCK, false);
        }

        /* All that is not on the disk is lost, so nothing else is set right here. */
        private void goOff() {
            on = false;
            when = NEVER;
        }

        int number(int at, int count) {
            int number = 0;
            if (at >= 0 && at < DISK_BYTES && count >= 0 && count <= WORD) {
                for (int i = at; i < at + count; i++) {
                    number = number << 8 | cells[i] & 255;
                }
            }
            return number;
        }

        int kind(int at) {
            return at >= 0 && at < DISK_BYTES ? cells[at] & 255 : 0;
        }

        int entryLength(int at) {
            if (at < 0 || at >= DISK_BYTES) {
                return ENTRY_HEAD;
            }
            return ENTRY_HEAD + (cells[at + 1] & 255) + (cells[at + 2] & 255);
        }

        int nextInBlock(int at) {
            if (at < 0 || at >= DISK_BYTES) {
                return NONE;
            }
            int next = at + ENTRY_HEAD + (cells[at + 1] & 255) + (cells[at + 2] & 255);
            return next / BLOCK == at / BLOCK && cells[next] != 0 ? next : NONE;
        }

        void copyKey(int at, Row to) {
            if (at >= 0 && at < DISK_BYTES) {
                to.copy(cells, at + ENTRY_HEAD, cells[at + 1] & 255);
            }
        }

        void copyValue(int at, Row to) {
            if (at >= 0 && at < DISK_BYTES) {
                int start = at + ENTRY_HEAD + (cells[at + 1] & 255);
                to.copy(cells, start, cells[at + 2] & 255);
            }
        }

        int order(int a, int b) {
            if (a < 0 || a >= DISK_BYTES || b < 0 || b >= DISK_BYTES) {
                return 0;
            }
            int inA = cells[a + 1] & 255;
            int inB = cells[b + 1] & 255;
            int shared = inA < inB ? inA : inB;
            for (int i = ENTRY_HEAD; i < ENTRY_HEAD + shared; i++) {
                int difference = (cells[a + i] & 255) - (cells[b + i] & 255);
                if (difference != 0) {
                    return difference;
                }
            }
            return inA - inB;
        }

        /* Of one key the newest version comes first. */
        boolean precedes(int a, int b) {
            int order = order(a, b);
            return order < 0
                || order == 0 && number(a + COMMIT_AT, 4) > number(b + COMMIT_AT, 4);
        }

        boolean isBefore(int at, Row row, int view) {
            if (at < 0 || at >= DISK_BYTES) {
                return false;
            }
            int length = cells[at + 1] & 255;
            int shared = Math.min(length, Math.min(row.length, row.cells.length));
            for (int i = 0; i < shared; i++) {
                int difference = (cells[at + ENTRY_HEAD + i] & 255) - (row.cells[i] & 255);
                if (difference != 0) {
                    return difference < 0;
                }
            }
            return length < row.length
                || length == row.length && number(at + COMMIT_AT, 4) > view;
        }

        boolean hasKey(int at, Row row) {
            if (at < 0 || at >= DISK_BYTES || (cells[at + 1] & 255) != row.length) {
                return false;
            }
            for (int i = 0; i < row.length && i < row.cells.length; i++) {
                if (cells[at + ENTRY_HEAD + i] != row.cells[i]) {
                    return false;
                }
            }
            return true;
        }

        long mix(long sum, int at) {
            if (at < 0 || at >= DISK_BYTES) {
                return sum;
            }
            int inKey = cells[at + 1] & 255;
            int inValue = cells[at + 2] & 255;
            int start = at + ENTRY_HEAD;
            return mixRow(mixRow(sum, start, inKey), start + inKey, inValue);
        }

        private long mixRow(long sum, int start, int count) {
            long mixed = sum * 31 + count;
            for (int i = start; i < start + count && i < cells.length; i++) {
                mixed = mixed * 31 + (cells[i] & 255);
            }
            return mixed;
        }
    }

    /** Puts and removes that are not done yet, as the record that the log will have of them. */
    private static final class Batch {
        private final byte[] record = new byte[MOST_RECORD];
        private final int[] starts = new int[MOST_STEPS];
        private int steps;
        private int length;
        private boolean open;

        void start() {
            steps = 0;
            length = RECORD_HEAD;
        }

        void add(int kind, Row key, Row value) {
            int inValue = kind == PUT ? value.length : 0;
            int whole = ENTRY_HEAD + key.length + inValue;
            if (steps >= MOST_STEPS || length + whole >= MOST_RECORD) {
                return;
            }
            starts[steps] = length;
            steps++;
            record[length] = (byte) kind;
            record[length + 1] = (byte) key.length;
            record[length + 2] = (byte) inValue;
            record[length + 3] = 0;
            System.arraycopy(key.cells, 0, record, length + ENTRY_HEAD, key.length);
            System.arraycopy(value.cells, 0, record, length + ENTRY_HEAD + key.length, inValue);
            length += whole;
        }

        void seal(int commit) {
            for (int i = 0; i < steps; i++) {
                int at = starts[i] + COMMIT_AT;
                for (int j = 0; j < 4; j++) {
                    record[at + j] = (byte) (commit >> (24 - 8 * j));
                }
            }
            int entries = length - RECORD_HEAD;
            record[0] = (byte) (entries >> 8);
            record[1] = (byte) entries;
            record[length] = (byte) MARK;
            length++;
        }

        int kind(int i) {
            return i >= 0 && i < steps ? record[starts[i]] : 0;
        }

        int entryLength(int i) {
            if (i < 0 || i >= steps) {
                return 0;
            }
            return ENTRY_HEAD + (record[starts[i] + 1] & 255) + (record[starts[i] + 2] & 255);
        }

        void copyKey(int i, Row to) {
            if (i >= 0 && i < steps) {
                to.copy(record, starts[i] + ENTRY_HEAD, record[starts[i] + 1] & 255);
            }
        }

        /* Only the last step of a key counts: the record comes whole or not at all. */
        boolean isLastOfItsKey(int i) {
            for (int j = i + 1; j < steps; j++) {
                if (haveSameKey(i, j)) {
                    return false;
                }
            }
            return true;
        }

        private boolean haveSameKey(int i, int j) {
            int a = starts[i];
            int b = starts[j];
            if (record[a + 1] != record[b + 1]) {
                return false;
            }
            for (int n = ENTRY_HEAD; n < ENTRY_HEAD + (record[a + 1] & 255); n++) {
                if (record[a + n] != record[b + n]) {
                    return false;
                }
            }
            return true;
        }
    }

    /** Snapshots: the number of the last commit that each of them sees. */
    private static final class Views {
        private final int[] commits = {NONE, NONE, NONE, NONE, NONE, NONE, NONE, NONE};

        int take(int commit) {
            for (int i = 0; i < MOST_VIEWS; i++) {
                if (commits[i] == NONE) {
                    commits[i] = commit;
                    return i;
                }
            }
            return NONE;
        }

        boolean has(int s) {
            return s >= 0 && s < MOST_VIEWS && commits[s] != NONE;
        }

        void drop(int s) {
            if (s >= 0 && s < MOST_VIEWS) {
                commits[s] = NONE;
            }
        }

        void clear() {
            for (int i = 0; i < MOST_VIEWS; i++) {
                commits[i] = NONE;
            }
        }

        int bits() {
            int bits = 0;
            for (int i = 0; i < MOST_VIEWS; i++) {
                if (commits[i] != NONE) {
                    bits |= 1 << i;
                }
            }
            return bits;
        }

        boolean see(int commit, int newer) {
            for (int i = 0; i < MOST_VIEWS; i++) {
                if (commits[i] >= commit && commits[i] < newer) {
                    return true;
                }
            }
            return false;
        }
    }

    /**
     * Records, one behind the other, and the entries in them in order. Its place is blank before it
     * is used, so that a record counts just if its mark is there.
     */
    private static final class Log {
        private final Disk disk;
        private final int[] index = new int[MOST_ROWS];
        private int count;
        private int used;
        private int area;
        private int touched;
        private int touchedOther;

        Log(Disk disk) {
            this.disk = disk;
        }

        int other() {
            return 1 - area;
        }

        boolean hasRoom(Batch batch) {
            return used + batch.length < LOG_BYTES && count + batch.steps <= MOST_ROWS;
        }

        void append(Batch batch) {
            int start = LOG_AT + area * LOG_BYTES + used;
            int done = 0;
            for (int i = 0; i < LOG_BLOCKS && done < batch.length; i++) {
                int at = start + done;
                int piece = Math.min(batch.length - done, BLOCK - at % BLOCK);
                disk.write(at, batch.record, done, piece, done + piece == batch.length);
                done += piece;
            }
            used += batch.length;
            touched = Math.max(touched, (used + BLOCK - 1) / BLOCK);
            enlist(start + RECORD_HEAD, start + batch.length - 1);
        }

        private void enlist(int start, int end) {
            int at = start;
            for (int i = 0; i < MOST_ROWS && at < end; i++) {
                enlistOne(at);
                at += disk.entryLength(at);
            }
        }

        private void enlistOne(int at) {
            int low = 0;
            int high = count;
            for (int i = 0; i < MOST_ROWS && low < high; i++) {
                int middle = (low + high) / 2;
                if (disk.precedes(index[middle], at)) {
                    low = middle + 1;
                } else {
                    high = middle;
                }
            }
            boolean sameStep = low < count && !disk.precedes(at, index[low]);
            if (!sameStep && count < MOST_ROWS) {
                System.arraycopy(index, low, index, low + 1, count - low);
                count++;
            }
            if (low < count) {
                index[low] = at;
            }
        }

        void open(int next) {
            area = next == 1 ? 1 : 0;
            count = 0;
            used = 0;
            touched = LOG_BLOCKS;
            touchedOther = LOG_BLOCKS;
        }

        int replay() {
            int records = 0;
            int start = LOG_AT + area * LOG_BYTES;
            for (int i = 0; i < LOG_BYTES; i++) {
                int entries = disk.number(start + used, RECORD_HEAD);
                int next = used + RECORD_HEAD + entries + 1;
                if (next > LOG_BYTES || disk.kind(start + next - 1) != MARK) {
                    return records;
                }
                enlist(start + used + RECORD_HEAD, start + next - 1);
                used = next;
                records++;
            }
            return records;
        }

        void clearOther() {
            int start = LOG_AT + (1 - area) * LOG_BYTES;
            for (int i = 0; i < touchedOther; i++) {
                disk.erase(start + i * BLOCK);
            }
        }

        void change() {
            area = 1 - area;
            touchedOther = touched;
            touched = 0;
            count = 0;
            used = 0;
        }

        int first() {
            return count > 0 ? index[0] : NONE;
        }

        int last() {
            return count > 0 && count <= MOST_ROWS ? index[count - 1] : NONE;
        }

        int find(Row row, int view) {
            int i = countBefore(row, view);
            return i < count && disk.hasKey(index[i], row) ? index[i] : NONE;
        }

        int from(Row row, int view) {
            int i = countBefore(row, view);
            return i < count ? index[i] : NONE;
        }

        int lastBefore(Row row) {
            int i = countBefore(row, NEWEST);
            return i > 0 ? index[i - 1] : NONE;
        }

        private int countBefore(Row row, int view) {
            int low = 0;
            int high = count;
            for (int i = 0; i < MOST_ROWS && low < high; i++) {
                int middle = (low + high) / 2;
                if (disk.isBefore(index[middle], row, view)) {
                    low = middle + 1;
                } else {
                    high = middle;
                }
            }
            return low;
        }

        void collect(Rows rows) {
            for (int i = 0; i < count; i++) {
                rows.add(index[i]);
            }
        }
    }

    /** A sorted file: blocks of entries, all versions of a key among them, and a block of a filter. */
    private static final class Table {
        private final Disk disk;
        private final int[] blocks = new int[TABLE_BLOCKS];
        private int count;
        private int last;
        private boolean used;

        Table(Disk disk) {
            this.disk = disk;
        }

        void start() {
            count = 0;
            last = NONE;
        }

        void addBlock(int block) {
            if (count < TABLE_BLOCKS) {
                blocks[count] = block;
                count++;
            }
        }

        void close() {
            int at = startOf(count - 2);
            last = at;
            for (int i = 0; i < BLOCK && at != NONE; i++) {
                last = at;
                at = disk.nextInBlock(at);
            }
        }

        boolean isSmall() {
            return count <= FULL_BLOCKS;
        }

        int startOf(int i) {
            return i >= 0 && i < count - 1 ? blocks[i] * BLOCK : NONE;
        }

        int following(int at) {
            int next = disk.nextInBlock(at);
            for (int i = 1; i < count && next == NONE; i++) {
                if (blocks[i - 1] == at / BLOCK) {
                    return startOf(i);
                }
            }
            return next;
        }

        int lastBefore(Row row, int view) {
            int at = NONE;
            for (int i = 0; i < count - 1 && disk.isBefore(blocks[i] * BLOCK, row, view); i++) {
                at = blocks[i] * BLOCK;
            }
            for (int i = 0; i < BLOCK && at != NONE; i++) {
                int next = disk.nextInBlock(at);
                if (next == NONE || !disk.isBefore(next, row, view)) {
                    return at;
                }
                at = next;
            }
            return at;
        }

        boolean allows(byte[] from, int start, int length) {
            if (count < 1) {
                return false;
            }
            int filter = blocks[count - 1] * BLOCK;
            int bit = hash(from, start, length);
            int stride = strideOf(bit);
            for (int i = 0; i < FILTER_PROBES; i++) {
                int place = bit & (FILTER_BITS - 1);
                if ((disk.kind(filter + place / 8) & 1 << place % 8) == 0) {
                    return false;
                }
                bit += stride;
            }
            return true;
        }

        int faults() {
            int faults = 0;
            int previous = NONE;
            int at = startOf(0);
            for (int i = 0; i < TABLE_BLOCKS * BLOCK && at != NONE; i++) {
                if (previous != NONE && !disk.precedes(previous, at)) {
                    faults++;
                }
                if (!allows(disk.cells, at + ENTRY_HEAD, disk.number(at + 1, 1))) {
                    faults++;
                }
                previous = at;
                at = following(at);
            }
            return faults;
        }

        static int hash(byte[] from, int start, int length) {
            int hash = 0x811C9DC5;
            for (int i = Math.max(0, start); i < start + length && i < from.length; i++) {
                hash = (hash ^ from[i] & 255) * 0x01000193;
            }
            return hash ^ hash >>> 15;
        }

        static int strideOf(int hash) {
            return hash >>> 12 | 1;
        }
    }

    /** Tables that do not overlap, in order; those from low to below high are picked to be joined. */
    private static final class Level {
        private final Disk disk;
        private final Table none;
        private final Table[] tables = new Table[MOST_TABLES];
        private int count;
        private int low;
        private int high;

        Level(Disk disk) {
            this.disk = disk;
            none = new Table(disk);
            none.start();
        }

        void clear() {
            count = 0;
            low = 0;
            high = 0;
        }

        private Table table(int i) {
            if (i < 0 || i >= count || i >= MOST_TABLES || tables[i] == null) {
                return none;
            }
            return tables[i];
        }

        void add(Table table) {
            if (count < MOST_TABLES) {
                tables[count] = table;
                count++;
            }
        }

        int blocks() {
            int blocks = 0;
            for (int i = 0; i < count; i++) {
                blocks += table(i).count;
            }
            return blocks;
        }

        int firstOf(int i) {
            return table(i).startOf(0);
        }

        int lastOf(int i) {
            return table(i).last;
        }

        void pickNone() {
            low = 0;
            high = 0;
        }

        void pickAll() {
            low = 0;
            high = count;
        }

        void pickOne(int i) {
            low = Math.max(0, Math.min(i, count));
            high = Math.min(low + 1, count);
        }

        /* Small neighbours are picked too, or files of one entry each would fill the level. */
        void pickOver(int first, int last) {
            if (first == NONE || last == NONE) {
                pickNone();
                return;
            }
            low = 0;
            while (low < count && disk.order(table(low).last, first) < 0) {
                low++;
            }
            high = low;
            while (high < count && disk.order(table(high).startOf(0), last) <= 0) {
                high++;
            }
            if (low > 0 && table(low - 1).isSmall()) {
                low--;
            }
            if (high < count && table(high).isSmall()) {
                high++;
            }
        }

        void collect(Rows rows) {
            for (int i = low; i < high; i++) {
                Table table = table(i);
                int at = table.startOf(0);
                for (int n = 0; n < TABLE_BLOCKS * BLOCK && at != NONE; n++) {
                    rows.add(at);
                    at = table.following(at);
                }
            }
        }

        void cut(Files files) {
            for (int i = low; i < high; i++) {
                files.retire(table(i));
            }
            int picked = high - low;
            for (int i = high; i < count; i++) {
                tables[i - picked] = tables[i];
            }
            count -= picked;
            high = low;
        }

        void insert(Table[] made, int number) {
            if (number < 0 || number > made.length || count + number > MOST_TABLES) {
                return;
            }
            for (int i = count - 1; i >= low; i--) {
                tables[i + number] = tables[i];
            }
            for (int i = 0; i < number; i++) {
                tables[low + i] = made[i];
            }
            count += number;
        }

        private int tableFrom(Row row, int view) {
            int from = 0;
            int to = count;
            for (int i = 0; i < MOST_TABLES && from < to; i++) {
                int middle = (from + to) / 2;
                if (disk.isBefore(table(middle).last, row, view)) {
                    from = middle + 1;
                } else {
                    to = middle;
                }
            }
            return from;
        }

        int find(Row row, int view) {
            Table table = table(tableFrom(row, NEWEST));
            if (!table.allows(row.cells, 0, row.length)) {
                return NONE;
            }
            int previous = table.lastBefore(row, view);
            int at = previous == NONE ? table.startOf(0) : table.following(previous);
            return disk.hasKey(at, row) ? at : NONE;
        }

        int from(Row row, int view) {
            Table table = table(tableFrom(row, view));
            int previous = table.lastBefore(row, view);
            return previous == NONE ? table.startOf(0) : table.following(previous);
        }

        int lastBefore(Row row) {
            int i = tableFrom(row, NEWEST);
            int at = table(i).lastBefore(row, NEWEST);
            return at == NONE ? table(i - 1).last : at;
        }

        int overlaps() {
            int overlaps = 0;
            for (int i = 1; i < count; i++) {
                if (disk.order(table(i - 1).last, table(i).startOf(0)) >= 0) {
                    overlaps++;
                }
            }
            return overlaps;
        }

        int faults() {
            int faults = 0;
            for (int i = 0; i < count; i++) {
                faults += table(i).faults();
            }
            return faults;
        }
    }

    /** Which blocks and tables are in use, and which go as soon as a new head is written. */
    private static final class Files {
        private final boolean[] taken = new boolean[FILE_BLOCKS];
        private final int[] owners = new int[FILE_BLOCKS];
        private final Table[] pool = new Table[MOST_TABLES];
        private final Table[] retired = new Table[MOST_TABLES];
        private int retiredCount;
        private int freeBlocks = FILE_BLOCKS;
        private int freeTables = MOST_TABLES;
        private int next;

        Files(Disk disk) {
            for (int i = 0; i < MOST_TABLES; i++) {
                pool[i] = new Table(disk);
            }
        }

        void clear() {
            for (int i = 0; i < FILE_BLOCKS; i++) {
                taken[i] = false;
            }
            for (int i = 0; i < MOST_TABLES; i++) {
                pool[i].used = false;
            }
            freeBlocks = FILE_BLOCKS;
            freeTables = MOST_TABLES;
            retiredCount = 0;
        }

        /* It goes round, so that what was just freed is written over last. */
        int takeBlock() {
            for (int i = 0; i < FILE_BLOCKS; i++) {
                int at = Math.floorMod(next + i, FILE_BLOCKS);
                if (!taken[at]) {
                    next = at + 1;
                    mark(at);
                    return FIRST_FILE_BLOCK + at;
                }
            }
            return NONE;
        }

        boolean takeThis(int block) {
            int at = block - FIRST_FILE_BLOCK;
            if (at < 0 || at >= FILE_BLOCKS) {
                return false;
            }
            mark(at);
            return true;
        }

        private void mark(int at) {
            if (!taken[at]) {
                taken[at] = true;
                freeBlocks--;
            }
        }

        Table takeTable() {
            for (int i = 0; i < MOST_TABLES; i++) {
                if (!pool[i].used) {
                    pool[i].used = true;
                    pool[i].start();
                    freeTables--;
                    return pool[i];
                }
            }
            return null;
        }

        void retire(Table table) {
            if (retiredCount < MOST_TABLES) {
                retired[retiredCount] = table;
                retiredCount++;
            }
        }

        void freeRetired() {
            for (int i = 0; i < retiredCount; i++) {
                Table table = retired[i];
                if (table != null && table.used) {
                    free(table);
                }
            }
            retiredCount = 0;
        }

        private void free(Table table) {
            for (int i = 0; i < table.count; i++) {
                int at = table.blocks[i] - FIRST_FILE_BLOCK;
                if (at >= 0 && at < FILE_BLOCKS && taken[at]) {
                    taken[at] = false;
                    freeBlocks++;
                }
            }
            table.used = false;
            freeTables++;
        }

        int strayBlocks(Level[] levels) {
            for (int i = 0; i < FILE_BLOCKS; i++) {
                owners[i] = 0;
            }
            int stray = 0;
            for (int i = 0; i < levels.length; i++) {
                for (int n = 0; n < levels[i].count; n++) {
                    stray += own(levels[i].table(n));
                }
            }
            for (int i = 0; i < FILE_BLOCKS; i++) {
                if (taken[i] ? owners[i] != 1 : owners[i] != 0) {
                    stray++;
                }
            }
            return stray;
        }

        private int own(Table table) {
            int outside = 0;
            for (int i = 0; i < table.count; i++) {
                int at = table.blocks[i] - FIRST_FILE_BLOCK;
                if (at >= 0 && at < FILE_BLOCKS) {
                    owners[at]++;
                } else {
                    outside++;
                }
            }
            return outside;
        }
    }

    /** Entries of the log and of files, in order: what files are put together of. */
    private static final class Rows {
        private final Disk disk;
        private final int[] list = new int[MOST_ROWS];
        private final int[] spare = new int[MOST_ROWS];
        private int count;
        private boolean whole;

        Rows(Disk disk) {
            this.disk = disk;
        }

        void clear() {
            count = 0;
            whole = true;
        }

        void add(int at) {
            if (count >= MOST_ROWS) {
                whole = false;
                return;
            }
            list[count] = at;
            count++;
        }

        void blend(int middle) {
            if (middle <= 0 || middle >= count) {
                return;
            }
            System.arraycopy(list, 0, spare, 0, middle);
            int a = 0;
            int b = middle;
            for (int i = 0; i < count && a < middle; i++) {
                if (b >= count || disk.precedes(spare[a], list[b])) {
                    list[i] = spare[a];
                    a++;
                } else {
                    list[i] = list[b];
                    b++;
                }
            }
        }

        /* What no view sees goes; below the last level there is nothing that a remove could hide. */
        void thin(Views views, boolean lowest) {
            int kept = 0;
            int previous = NONE;
            int newer = 0;
            for (int i = 0; i < count; i++) {
                int at = list[i];
                int commit = disk.number(at + COMMIT_AT, 4);
                boolean newKey = previous == NONE || disk.order(previous, at) != 0;
                if (newKey && lowest) {
                    kept = withoutRemoves(kept);
                }
                if (newKey || views.see(commit, newer)) {
                    list[kept] = at;
                    kept++;
                }
                previous = at;
                newer = commit;
            }
            count = lowest ? withoutRemoves(kept) : kept;
        }

        private int withoutRemoves(int kept) {
            int end = kept;
            while (end > 0 && disk.kind(list[end - 1]) == REMOVE) {
                end--;
            }
            return end;
        }

        /* The place, from start on, of the next entry that is a put and that the view sees. */
        int firstSeen(int start, int view) {
            for (int i = Math.max(0, start); i < count; i++) {
                int at = list[i];
                boolean hidden = disk.number(at + COMMIT_AT, 4) > view || hasNewer(i, view);
                if (!hidden && disk.kind(at) == PUT) {
                    return i;
                }
            }
            return NONE;
        }

        private boolean hasNewer(int i, int view) {
            return i > 0 && disk.order(list[i - 1], list[i]) == 0
                && disk.number(list[i - 1] + COMMIT_AT, 4) <= view;
        }
    }

    /** Writes rows into new tables; a key's versions never go into two. */
    private static final class Writer {
        private static final int SAME_BLOCK = 0;
        private static final int NEW_BLOCK = 1;
        private static final int NEW_TABLE = 2;

        private final Disk disk;
        private final Files files;
        private final byte[] block = new byte[BLOCK];
        private final byte[] filter = new byte[BLOCK];
        private final Table[] made = new Table[MOST_TABLES];
        private int count;
        private int started;
        private int fill;

        Writer(Disk disk, Files files) {
            this.disk = disk;
            this.files = files;
        }

        private int stepTo(Rows rows, int i) {
            boolean fits = fill + disk.entryLength(rows.list[i]) <= BLOCK;
            boolean newKey = i == 0 || disk.order(rows.list[i - 1], rows.list[i]) != 0;
            boolean full = started > FULL_BLOCKS || started == FULL_BLOCKS && !fits;
            if (i == 0 || newKey && full) {
                return NEW_TABLE;
            }
            return fits ? SAME_BLOCK : NEW_BLOCK;
        }

        private void advance(int step, int length) {
            if (step == NEW_TABLE) {
                started = 0;
            }
            if (step != SAME_BLOCK) {
                started++;
                fill = 0;
            }
            fill += length;
        }

        boolean hasRoom(Rows rows) {
            int blocks = 0;
            int tables = 0;
            for (int i = 0; i < rows.count; i++) {
                int step = stepTo(rows, i);
                advance(step, disk.entryLength(rows.list[i]));
                blocks += step == NEW_TABLE ? 2 : step == NEW_BLOCK ? 1 : 0;
                tables += step == NEW_TABLE ? 1 : 0;
                if (started >= TABLE_BLOCKS || fill > BLOCK) {
                    return false;
                }
            }
            return blocks <= files.freeBlocks && tables <= files.freeTables;
        }

        void store(Rows rows) {
            count = 0;
            for (int i = 0; i < rows.count; i++) {
                int step = stepTo(rows, i);
                if (step != SAME_BLOCK && i > 0) {
                    writeOut(block);
                }
                if (step == NEW_TABLE && i > 0) {
                    writeOut(filter);
                    closeTable();
                }
                open(step);
                advance(step, disk.entryLength(rows.list[i]));
                copyEntry(rows.list[i]);
            }
            if (rows.count > 0) {
                writeOut(block);
                writeOut(filter);
                closeTable();
            }
        }

        private void open(int step) {
            if (step == NEW_TABLE) {
                Arrays.fill(filter, (byte) 0);
                Table table = files.takeTable();
                if (table != null && count < MOST_TABLES) {
                    made[count] = table;
                    count++;
                }
            }
            if (step != SAME_BLOCK) {
                Arrays.fill(block, (byte) 0);
            }
        }

        /* Its bytes are counted already: it ends where the block is filled to. */
        private void copyEntry(int at) {
            int length = disk.entryLength(at);
            int to = fill - length;
            if (at < 0 || at > DISK_BYTES - length || to < 0 || to > BLOCK - length) {
                return;
            }
            System.arraycopy(disk.cells, at, block, to, length);
            int bit = Table.hash(disk.cells, at + ENTRY_HEAD, block[to + 1] & 255);
            int stride = Table.strideOf(bit);
            for (int i = 0; i < FILTER_PROBES; i++) {
                int place = bit & (FILTER_BITS - 1);
                filter[place / 8] |= (byte) (1 << place % 8);
                bit += stride;
            }
        }

        private Table current() {
            return count > 0 && count <= MOST_TABLES ? made[count - 1] : null;
        }

        private void closeTable() {
            Table table = current();
            if (table != null) {
                table.close();
            }
        }

        private void writeOut(byte[] from) {
            Table table = current();
            int number = files.takeBlock();
            if (table != null && number != NONE) {
                table.addBlock(number);
                disk.write(number * BLOCK, from, 0, BLOCK, false);
            }
        }
    }

    /**
     * The list of all files and of the log that counts. It has two places, written by turns, and
     * its mark is its last byte: so there is always a whole one.
     */
    private static final class Head {
        private static final int LENGTH_AT = 4;

        private final Disk disk;
        private final byte[] record = new byte[HEAD_BYTES];
        private int length;
        private int cursor;
        private int generation;
        private int area;
        private int commits;

        Head(Disk disk) {
            this.disk = disk;
        }

        void install(int nextArea, int nextCommits, Level[] levels) {
            describe(nextArea, nextCommits, levels);
            int start = Math.floorMod(generation + 1, 2) * HEAD_BYTES;
            for (int i = 0; i < HEAD_BLOCKS; i++) {
                disk.erase(start + i * BLOCK);
            }
            for (int done = 0; done < length; done += BLOCK) {
                disk.write(start + done, record, done, Math.min(BLOCK, length - done), false);
            }
            generation++;
            area = nextArea;
            commits = nextCommits;
        }

        private void describe(int nextArea, int nextCommits, Level[] levels) {
            length = 0;
            addNumber(generation + 1, 4);
            addNumber(0, 2);
            addNumber(nextArea, 1);
            addNumber(nextCommits, 4);
            for (int i = 0; i < levels.length; i++) {
                addNumber(levels[i].count, 2);
                for (int n = 0; n < levels[i].count; n++) {
                    addTable(levels[i].table(n));
                }
            }
            record[LENGTH_AT] = (byte) (length >> 8);
            record[LENGTH_AT + 1] = (byte) length;
            addNumber(MARK, 1);
        }

        private void addTable(Table table) {
            addNumber(table.count, 1);
            for (int i = 0; i < table.count; i++) {
                addNumber(table.blocks[i], 2);
            }
        }

        private void addNumber(int number, int count) {
            for (int i = count - 1; i >= 0 && length < HEAD_BYTES; i--) {
                record[length] = (byte) (number >> (8 * i));
                length++;
            }
        }

        void load(Level[] levels, Files files) {
            int first = generationAt(0);
            int second = generationAt(HEAD_BYTES);
            generation = Math.max(first, second);
            area = 0;
            commits = 0;
            if (generation == 0) {
                return;
            }
            cursor = (second > first ? HEAD_BYTES : 0) + LENGTH_AT + 2;
            area = read(1);
            commits = read(4);
            for (int i = 0; i < levels.length; i++) {
                int tables = Math.min(read(2), MOST_TABLES);
                for (int n = 0; n < tables; n++) {
                    readTable(levels[i], files);
                }
            }
        }

        /* A head that was cut has no mark, as its place is blank before. */
        private int generationAt(int start) {
            int whole = disk.number(start + LENGTH_AT, 2);
            if (whole <= LENGTH_AT || whole >= HEAD_BYTES || disk.kind(start + whole) != MARK) {
                return 0;
            }
            return Math.max(0, disk.number(start, 4));
        }

        private void readTable(Level level, Files files) {
            int blocks = read(1);
            Table table = files.takeTable();
            for (int i = 0; i < blocks; i++) {
                int block = read(2);
                if (table != null && files.takeThis(block)) {
                    table.addBlock(block);
                }
            }
            if (table != null) {
                table.close();
                level.add(table);
            }
        }

        private int read(int count) {
            int number = disk.number(cursor, count);
            cursor += count;
            return number;
        }
    }
}
