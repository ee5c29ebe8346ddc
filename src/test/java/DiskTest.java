import java.util.Random;

/** What lasts stands on the disk alone; files have their form; check sees each kind of fault. */
public final class DiskTest {
    private static final int BLOCK = Inside.BLOCK;

    private DiskTest() {
    }

    public static void main(String[] args) {
        whatItIs();
        Due.sentence("Promise 15", "What was put is written into a file now", DiskTest::flushWritesIntoAFile);
        Due.sentence("Promise 16", "Files are put together, as far as it may be", () -> {
            compactPutsFilesTogether();
            removesAndOldVersionsGo();
        });
        whatCheckSees();
        for (int run = 0; run < 60; run++) {
            diskAloneLasts(run);
        }
        blocksAreGivenBack();
        Due.sentence("What it is", "what later calls answer is free", () -> {
            for (int free = 0; free < 40; free++) {
                fullDiskLosesNothing(free);
            }
        });
        nineVersionsBehindAFullFile();
        headOfMoreThanABlock();
        for (int last = 125; last <= 131; last++) {
            entriesThatJustFillABlock(last);
            blocksThatJustFillAFile(last);
        }
        Due.finish("DiskTest");
    }

    private static void whatItIs() {
        Due.sentence("What it is", "a log", () -> {
            flushWritesIntoAFile();
            for (int last = 125; last <= 131; last++) {
                recordsThatJustFillTheLog(last);
            }
        });
        Due.sentence("What it is", "sorted files in three levels", DiskTest::threeLevelsFill);
        Due.sentence("What it is", "filters", DiskTest::filterDeniesMost);
        Due.sentence("What it is", "files that are put together", () -> {
            compactPutsFilesTogether();
            smallFilesArePutTogether(1);
            smallFilesArePutTogether(-1);
        });
        Due.sentence("What it is", "snapshots that see what was", DiskTest::justWhatIsSeenIsKept);
    }

    private static void whatCheckSees() {
        Due.sentence("Promise 21", "entries out of order", DiskTest::checkSeesDisorder);
        Due.sentence("Promise 21", "files of a level that overlap", DiskTest::checkSeesOverlap);
        Due.sentence("Promise 21", "keys that a filter denies", DiskTest::checkSeesDeniedKeys);
        Due.sentence("Promise 21", "blocks that are in two files", DiskTest::checkSeesBlocksOfTwoFiles);
        Due.sentence("Promise 21", "or in none", () -> {
            checkSeesBlocksOfNone();
            checkSeesBlocksOutside();
        });
    }

    private static LsmStore filled(int keys, int valueWords) {
        LsmStore x = new LsmStore();
        x.value(0, 0, true);
        for (int i = 0; i < valueWords; i++) {
            x.value(0x1234567L * (i + 3), 8, false);
        }
        for (int i = 0; i < keys; i++) {
            x.key((i * 37) % keys * 16, 2, true);
            x.put();
        }
        return x;
    }

    private static void diskAloneLasts(int run) {
        Random random = new Random(run);
        LsmStore x = new LsmStore();
        for (int i = 0; i < 220; i++) {
            x.value(random.nextLong(), random.nextInt(9), x.told(7) > 180 || random.nextInt(9) == 0);
            x.key(random.nextInt(60), 2, true);
            boolean batch = random.nextInt(12) == 0;
            if (batch) {
                x.begin();
                x.put();
                x.key(random.nextInt(60), 2, true);
            }
            if (random.nextInt(4) == 0) {
                x.remove();
            } else {
                x.put();
            }
            if (batch) {
                x.commit();
            }
            upkeep(random, x);
            if (i % 10 == 0) {
                sameFromDisk("run " + run + ", step " + i, x);
            }
        }
    }

    private static void upkeep(Random random, LsmStore x) {
        int act = random.nextInt(40);
        if (act == 0) {
            x.flush();
        } else if (act == 1) {
            x.compact();
        } else if (act == 2) {
            x.reopen();
        } else if (act == 3 && x.told(4) != 255) {
            x.snapshot();
        }
    }

    private static void sameFromDisk(String where, LsmStore x) {
        LsmStore y = Inside.fromDiskOf(x);
        Due.is(where + ": SIZE from the disk", y.reopen(), x.told(1));
        Due.is(where + ": keys from the disk", y.told(2), x.told(2));
        Due.is(where + ": commits from the disk", y.told(5), x.told(5));
        Due.is(where + ": map from the disk", y.digest(-1), x.digest(-1));
        Due.is(where + ": check from the disk", y.check(), 0);
    }

    private static void flushWritesIntoAFile() {
        LsmStore x = filled(3, 1);
        Due.is("no file yet", Inside.tables(x, 0), 0);
        Due.is("the log is used", Inside.number(Inside.of(x, "log"), "count"), 3);
        x.flush();
        Due.is("one file", Inside.tables(x, 0), 1);
        Due.is("the log is empty", Inside.number(Inside.of(x, "log"), "used"), 0);
    }

    private static void compactPutsFilesTogether() {
        LsmStore x = filled(70, 20);
        x.compact();
        Due.is("no file in level 0", Inside.tables(x, 0), 0);
        Due.is("no file in level 1", Inside.tables(x, 1), 0);
        Due.is("files in level 2", Inside.tables(x, 2) > 1 ? 1 : 0, 1);
        Due.is("the log is empty", Inside.number(Inside.of(x, "log"), "used"), 0);
    }

    private static void threeLevelsFill() {
        LsmStore x = filled(75, 24);
        for (int level = 0; level < 3; level++) {
            Due.is("files in level " + level, Inside.tables(x, level) > 0 ? 1 : 0, 1);
        }
        Due.is("nothing is wrong", x.check(), 0);
        for (int i = 0; i < 75; i++) {
            x.key(i * 16, 2, true);
            Due.is("every key is found", x.get(-1), 192);
            x.key(i * 16 + 1, 2, true);
            Due.is("no other is found", x.get(-1), -1);
        }
    }

    private static void removesAndOldVersionsGo() {
        LsmStore x = filled(60, 10);
        x.snapshot();
        for (int i = 0; i < 60; i++) {
            x.key(i * 16, 2, true);
            x.remove();
        }
        x.compact();
        Due.is("the snapshot keeps files", Inside.tables(x, 2) > 0 ? 1 : 0, 1);
        x.key(32, 2, true);
        Due.is("it sees what was", x.get(0), 80);
        Due.is("the map does not", x.get(-1), -1);
        x.key(30 * 16, 2, true);
        x.put();
        x.release(0);
        x.compact();
        Due.is("just what was put again is kept", Inside.number(Inside.of(x, "rows"), "count"), 1);
        x.remove();
        x.compact();
        Due.is("then no file is left", Inside.tables(x, 2), 0);
        Due.is("and nothing is wrong", x.check(), 0);
    }

    private static void checkSeesDisorder() {
        LsmStore x = filled(3, 1);
        x.flush();
        int start = Inside.blocks(x, 0, 0)[0] * BLOCK;
        byte[] cells = Inside.disk(x);
        int entry = 8 + 2 + 8;
        cells[start + 8] = 1;
        Due.is("a first key that is too high", x.check() > 0 ? 1 : 0, 1);
        cells[start + 8] = 0;
        Due.is("set right", x.check(), 0);
        System.arraycopy(cells, start, cells, start + entry, entry);
        Due.is("the same entry twice", x.check() > 0 ? 1 : 0, 1);
    }

    private static void checkSeesOverlap() {
        LsmStore x = filled(70, 20);
        x.compact();
        Object[] tables = (Object[]) Inside.of(Inside.level(x, 2), "tables");
        Object first = tables[0];
        tables[0] = tables[1];
        tables[1] = first;
        Due.is("files in the wrong order", x.check() > 0 ? 1 : 0, 1);
        tables[1] = tables[0];
        tables[0] = first;
        Due.is("set right", x.check(), 0);
        LsmStore y = filled(1, 1);
        y.flush();
        ((Object[]) Inside.of(Inside.level(y, 0), "tables"))[1] = Inside.table(y, 0, 0);
        Inside.set(Inside.level(y, 0), "count", 2);
        Due.is("files that share a key alone, and two blocks", y.check(), 3);
    }

    private static void checkSeesDeniedKeys() {
        LsmStore x = filled(5, 1);
        x.flush();
        int filter = Inside.blocks(x, 0, 0)[Inside.blockCount(x, 0, 0) - 1] * BLOCK;
        byte[] cells = Inside.disk(x);
        for (int i = 0; i < BLOCK; i++) {
            cells[filter + i] = 0;
        }
        Due.is("a filter that denies all", x.check(), 5);
        x.key(16, 2, true);
        Due.is("the filter is asked", x.get(-1), -1);
    }

    private static void checkSeesBlocksOfTwoFiles() {
        LsmStore x = filled(70, 20);
        x.compact();
        ((Object[]) Inside.of(Inside.level(x, 0), "tables"))[0] = Inside.table(x, 2, 0);
        Inside.set(Inside.level(x, 0), "count", 1);
        Due.is("a file that is in two levels", x.check(), Inside.blockCount(x, 2, 0));
        Inside.set(Inside.level(x, 0), "count", 0);
        Due.is("set right", x.check(), 0);
        int[] second = Inside.blocks(x, 2, 1);
        int filter = Inside.blockCount(x, 2, 1) - 1;
        int was = second[filter];
        second[filter] = Inside.blocks(x, 2, 0)[0];
        Due.is("a block of two files", x.check() > 0 ? 1 : 0, 1);
        second[filter] = was;
        Due.is("set right", x.check(), 0);
    }

    private static void checkSeesBlocksOfNone() {
        LsmStore x = filled(5, 1);
        boolean[] taken = (boolean[]) Inside.of(Inside.of(x, "files"), "taken");
        taken[taken.length - 1] = true;
        Due.is("a block of no file", x.check(), 1);
        taken[taken.length - 1] = false;
        Due.is("set right", x.check(), 0);
    }

    /** Out of reach of 512 calls, so the blocks are taken from inside. */
    private static void fullDiskLosesNothing(int free) {
        LsmStore x = new LsmStore();
        Object files = Inside.of(x, "files");
        boolean[] taken = (boolean[]) Inside.of(files, "taken");
        for (int i = free; i < taken.length; i++) {
            taken[i] = true;
        }
        Inside.set(files, "freeBlocks", free);
        for (int i = 0; i < 25; i++) {
            x.value(i, 8, i == 0);
        }
        for (int i = 0; i < 600; i++) {
            x.key(i % 70, 2, true);
            long before = x.digest(-1);
            String answer = Due.answer(x::put);
            if (answer.startsWith("throws.")) {
                Due.same("the disk is full", answer, "throws.IllegalStateException");
                Due.is("nothing changes", x.digest(-1), before);
            } else {
                Due.is("it is there", x.get(-1), 200);
            }
            if (i % 50 == 0) {
                x.flush();
                x.compact();
            }
        }
        Due.is("the map is there", x.told(2) <= 70 && x.told(1) == x.told(2) * 210 ? 1 : 0, 1);
        long map = x.digest(-1);
        x.reopen();
        Due.is("it lasts", x.digest(-1), map);
    }

    private static void checkSeesBlocksOutside() {
        LsmStore x = filled(5, 1);
        x.flush();
        int[] blocks = Inside.blocks(x, 0, 0);
        int was = blocks[0];
        for (int outside : new int[] {-1, 0, 3, 79, 592, 100000}) {
            blocks[0] = outside;
            Due.is("a block outside the files' place", x.check() > 1 ? 1 : 0, 1);
        }
        blocks[0] = was;
        Due.is("set right", x.check(), 0);
        for (int outside : new int[] {-1, 3, 79, 592, 100000}) {
            blocks[1] = outside;
            Due.is("a filter outside denies five, and a block is in no file", x.check(), 5 + 1 + 1);
        }
    }

    private static void blocksAreGivenBack() {
        LsmStore x = filled(70, 20);
        x.compact();
        Object files = Inside.of(x, "files");
        int free = Inside.number(files, "freeBlocks");
        int freeTables = Inside.number(files, "freeTables");
        for (int i = 0; i < 50; i++) {
            x.power(2, i, i);
            try {
                x.compact();
            } catch (ArithmeticException e) {
                x.reopen();
            }
            x.compact();
        }
        Due.is("blocks are given back", Inside.number(files, "freeBlocks"), free);
        Due.is("tables are given back", Inside.number(files, "freeTables"), freeTables);
        Due.is("nothing is wrong", x.check(), 0);
    }

    private static void justWhatIsSeenIsKept() {
        LsmStore x = new LsmStore();
        x.key(7, 1, true);
        for (int i = 0; i < 12; i++) {
            x.value(i, 1, true);
            x.put();
            if (i % 3 == 2) {
                x.snapshot();
            }
        }
        x.compact();
        Due.is("the last is seen by a snapshot too", Inside.number(Inside.of(x, "rows"), "count"), 4);
        x.put();
        x.compact();
        Due.is("five are seen", Inside.number(Inside.of(x, "rows"), "count"), 5);
        x.release(1);
        x.compact();
        Due.is("four are seen", Inside.number(Inside.of(x, "rows"), "count"), 4);
        Due.is("the first snapshot's", x.get(0), 1);
        Due.is("its value", x.bytes(true, 0), 2L << 56);
        Due.is("the third one's", x.get(2), 1);
        Due.is("its value", x.bytes(true, 0), 8L << 56);
    }

    private static void smallFilesArePutTogether(int way) {
        LsmStore x = new LsmStore();
        x.value(1, 8, true);
        for (int i = 0; i < 120; i++) {
            x.key(500 + way * i, 2, true);
            x.put();
            x.flush();
            int files = Inside.tables(x, 0) + Inside.tables(x, 1) + Inside.tables(x, 2);
            Due.is("few files, way " + way, Math.max(files, 6), 6);
            Due.is("nothing is wrong", x.check(), 0);
        }
    }

    /** Three full blocks and a half, then a key that eight snapshots and the map see each another version of. */
    private static void nineVersionsBehindAFullFile() {
        LsmStore x = new LsmStore();
        for (int i = 0; i < 25; i++) {
            x.value(i, 8, false);
        }
        for (int i = 0; i < 7; i++) {
            x.key(i, 2, true);
            x.put();
        }
        x.key(7, 2, true);
        for (int i = 0; i < 9; i++) {
            x.value(i, 8, true);
            for (int n = 1; n < 25; n++) {
                x.value(n, 8, false);
            }
            x.put();
            if (i < 8) {
                x.snapshot();
            }
        }
        x.compact();
        Due.is("one file", Inside.tables(x, 2), 1);
        Due.is("eight blocks and the filter's", Inside.blockCount(x, 2, 0), 9);
        Due.is("nothing is wrong", x.check(), 0);
        for (int s = -1; s < 8; s++) {
            Due.is("a version", x.get(s), 200);
            Due.is("its first bytes", x.bytes(true, 0), s < 0 ? 8 : s);
        }
    }

    /** Files of seven versions of a large map, more than 512 calls can make: their list takes two blocks. */
    private static void headOfMoreThanABlock() {
        LsmStore x = new LsmStore();
        long[] maps = new long[7];
        for (int s = 0; s < 7; s++) {
            for (int i = 0; i < 25; i++) {
                x.value(s * 1000 + i, 8, i == 0);
            }
            for (int i = 0; i < 76; i++) {
                x.key(i, 2, true);
                x.put();
            }
            maps[s] = x.digest(-1);
            x.snapshot();
        }
        x.flush();
        Due.is("a long head", Inside.number(Inside.of(x, "head"), "length") > BLOCK ? 1 : 0, 1);
        for (int s = 0; s < 7; s++) {
            Due.is("snapshot " + s, x.digest(s), maps[s]);
        }
        sameFromDisk("a long head", x);
        x.power(2, 60, 100);
        Due.same("reopen", Due.answer(x::reopen), "throws.ArithmeticException");
        Due.is("behind a failure", x.reopen(), 15960);
        Due.is("the map", x.digest(-1), maps[6]);
    }

    /** Entries of 128 bytes, four to a block, but the last one of so many. */
    private static LsmStore entries(int count, int last) {
        LsmStore x = new LsmStore();
        for (int i = 0; i < 118 / 8; i++) {
            x.value(0x0101010101010101L * i, 8, false);
        }
        x.value(-1, 118 % 8, false);
        for (int i = 0; i < count - 1; i++) {
            x.key(i, 2, true);
            x.put();
        }
        x.key(count - 1, 2, true);
        x.value(0, 0, true);
        for (int left = last - 10; left > 0; left -= 8) {
            x.value(left, Math.min(8, left), false);
        }
        x.put();
        return x;
    }

    private static void allAreFound(LsmStore x, int count, int last) {
        for (int i = 0; i < count; i++) {
            x.key(i, 2, true);
            Due.is("key " + i, x.get(-1), i == count - 1 ? last - 10 : 118);
            Due.is("the next of " + i, x.seek(-1, true), i == count - 1 ? -1 : 2);
            x.key(i, 2, true);
            Due.is("the one before " + i, x.before(-1), i == 0 ? -1 : 2);
        }
        Due.is("nothing is wrong", x.check(), 0);
        sameFromDisk("of " + count, x);
    }

    private static void entriesThatJustFillABlock(int last) {
        LsmStore x = entries(4, last);
        x.flush();
        Due.is("one block or two, and the filter's", Inside.blockCount(x, 0, 0), last <= 128 ? 2 : 3);
        allAreFound(x, 4, last);
    }

    private static void blocksThatJustFillAFile(int last) {
        LsmStore x = entries(16, last);
        x.compact();
        Due.is("one file or two", Inside.tables(x, 2), last <= 128 ? 1 : 2);
        Due.is("four blocks and the filter's", Inside.blockCount(x, 2, 0), 5);
        allAreFound(x, 16, last);
    }

    /** Fifteen records of 131 bytes; a file is made just as the log has more than 2048. */
    private static void recordsThatJustFillTheLog(int last) {
        int more = 2048 - 15 * 131 - 3 + last - 128;
        LsmStore x = entries(16, more);
        Due.is("a file or none", Inside.tables(x, 0), last > 128 ? 1 : 0);
        int used = Inside.number(Inside.of(x, "log"), "used");
        Due.is("bytes of the log", used, last > 128 ? 0 : 2048 + last - 128);
        allAreFound(x, 16, more);
        largestBatchFindsRoom(x);
    }

    private static void largestBatchFindsRoom(LsmStore x) {
        int size = x.told(1);
        long steps = 64 - Math.max(0, (size + 64 * 240 - 16000 + 239) / 240);
        for (int i = 0; i < 25; i++) {
            x.value(i, 8, i == 0);
        }
        x.begin();
        for (int i = 0; i < 64; i++) {
            for (int n = 0; n < 4; n++) {
                x.key(-1 - Math.min(i, steps - 1), 8, n == 0);
            }
            x.put();
        }
        Due.is("the largest batch", x.commit(), size + steps * 240);
        sameFromDisk("the largest batch", x);
    }

    private static void filterDeniesMost() {
        LsmStore x = filled(70, 8);
        x.compact();
        int allowed = 0;
        for (int i = 0; i < 2000; i++) {
            byte[] key = {(byte) (i >> 7), (byte) (i << 1 | 1)};
            for (int n = 0; n < Inside.tables(x, 2); n++) {
                allowed += Inside.allows(Inside.table(x, 2, n), key) ? 1 : 0;
            }
        }
        Due.is("a filter denies most that is not there", Math.max(allowed, 20), 20);
        int entriesInBlock = BLOCK / (8 + 2 + 64);
        for (int n = 0; n < Inside.tables(x, 2); n++) {
            int dataBlocks = Inside.blockCount(x, 2, n) - 1;
            int most = 4 * entriesInBlock * dataBlocks;
            int filter = Inside.blocks(x, 2, n)[dataBlocks] * BLOCK;
            int bits = 0;
            for (int i = 0; i < BLOCK; i++) {
                bits += Integer.bitCount(Inside.disk(x)[filter + i] & 255);
            }
            Due.is("four bits of each of its own keys alone", Math.max(bits, most), most);
        }
    }
}
