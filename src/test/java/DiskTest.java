import java.util.Random;

/** What lasts stands on the disk alone; files have their form; check sees each kind of fault. */
public final class DiskTest {
    private static final int BLOCK = 512;

    private DiskTest() {
    }

    public static void main(String[] args) {
        for (int run = 0; run < 60; run++) {
            diskAloneLasts(run);
        }
        flushWritesIntoAFile();
        compactPutsFilesTogether();
        threeLevelsFill();
        removesAndOldVersionsGo();
        checkSeesDisorder();
        checkSeesOverlap();
        checkSeesDeniedKeys();
        checkSeesBlocksOfTwoFiles();
        checkSeesBlocksOfNone();
        blocksAreGivenBack();
        Due.finish("DiskTest");
    }

    private static LsmStore filled(int keys, int valueWords) {
        LsmStore x = new LsmStore();
        x.value(0, 0, true);
        for (int i = 0; i < valueWords; i++) {
            x.value(0x1234567L * (i + 3), 8, false);
        }
        for (int i = 0; i < keys; i++) {
            x.key((i * 37) % keys * 16, 2, true);
            x.put();
        }
        return x;
    }

    private static void diskAloneLasts(int run) {
        Random random = new Random(run);
        LsmStore x = new LsmStore();
        for (int i = 0; i < 220; i++) {
            x.value(random.nextLong(), random.nextInt(9), x.told(7) > 180 || random.nextInt(9) == 0);
            x.key(random.nextInt(60), 2, true);
            boolean batch = random.nextInt(12) == 0;
            if (batch) {
                x.begin();
                x.put();
                x.key(random.nextInt(60), 2, true);
            }
            if (random.nextInt(4) == 0) {
                x.remove();
            } else {
                x.put();
            }
            if (batch) {
                x.commit();
            }
            upkeep(random, x);
            if (i % 10 == 0) {
                sameFromDisk("run " + run + ", step " + i, x);
            }
        }
    }

    private static void upkeep(Random random, LsmStore x) {
        int act = random.nextInt(40);
        if (act == 0) {
            x.flush();
        } else if (act == 1) {
            x.compact();
        } else if (act == 2) {
            x.reopen();
        } else if (act == 3 && x.told(4) != 255) {
            x.snapshot();
        }
    }

    private static void sameFromDisk(String where, LsmStore x) {
        LsmStore y = Inside.fromDiskOf(x);
        Due.is(where + ": SIZE from the disk", y.reopen(), x.told(1));
        Due.is(where + ": keys from the disk", y.told(2), x.told(2));
        Due.is(where + ": commits from the disk", y.told(5), x.told(5));
        Due.is(where + ": map from the disk", y.digest(-1), x.digest(-1));
        Due.is(where + ": check from the disk", y.check(), 0);
    }

    private static void flushWritesIntoAFile() {
        LsmStore x = filled(3, 1);
        Due.is("no file yet", Inside.tables(x, 0), 0);
        Due.is("the log is used", Inside.number(Inside.of(x, "log"), "count"), 3);
        x.flush();
        Due.is("one file", Inside.tables(x, 0), 1);
        Due.is("the log is empty", Inside.number(Inside.of(x, "log"), "used"), 0);
    }

    private static void compactPutsFilesTogether() {
        LsmStore x = filled(70, 20);
        x.compact();
        Due.is("no file in level 0", Inside.tables(x, 0), 0);
        Due.is("no file in level 1", Inside.tables(x, 1), 0);
        Due.is("files in level 2", Inside.tables(x, 2) > 1 ? 1 : 0, 1);
        Due.is("the log is empty", Inside.number(Inside.of(x, "log"), "used"), 0);
    }

    private static void threeLevelsFill() {
        LsmStore x = filled(75, 24);
        for (int level = 0; level < 3; level++) {
            Due.is("files in level " + level, Inside.tables(x, level) > 0 ? 1 : 0, 1);
        }
        Due.is("nothing is wrong", x.check(), 0);
        for (int i = 0; i < 75; i++) {
            x.key(i * 16, 2, true);
            Due.is("every key is found", x.get(-1), 192);
            x.key(i * 16 + 1, 2, true);
            Due.is("no other is found", x.get(-1), -1);
        }
    }

    private static void removesAndOldVersionsGo() {
        LsmStore x = filled(60, 10);
        x.snapshot();
        for (int i = 0; i < 60; i++) {
            x.key(i * 16, 2, true);
            x.remove();
        }
        x.compact();
        Due.is("the snapshot keeps files", Inside.tables(x, 2) > 0 ? 1 : 0, 1);
        x.key(32, 2, true);
        Due.is("it sees what was", x.get(0), 80);
        Due.is("the map does not", x.get(-1), -1);
        x.release(0);
        x.compact();
        Due.is("then no file is left", Inside.tables(x, 2), 0);
        Due.is("and nothing is wrong", x.check(), 0);
    }

    private static void checkSeesDisorder() {
        LsmStore x = filled(3, 1);
        x.flush();
        int start = Inside.blocks(x, 0, 0)[0] * BLOCK;
        byte[] cells = Inside.disk(x);
        int entry = 8 + 2 + 8;
        cells[start + 8] = 1;
        Due.is("a first key that is too high", x.check() > 0 ? 1 : 0, 1);
        cells[start + 8] = 0;
        Due.is("set right", x.check(), 0);
        System.arraycopy(cells, start, cells, start + entry, entry);
        Due.is("the same entry twice", x.check() > 0 ? 1 : 0, 1);
    }

    private static void checkSeesOverlap() {
        LsmStore x = filled(70, 20);
        x.compact();
        Object[] tables = (Object[]) Inside.of(Inside.level(x, 2), "tables");
        Object first = tables[0];
        tables[0] = tables[1];
        tables[1] = first;
        Due.is("files in the wrong order", x.check() > 0 ? 1 : 0, 1);
        tables[1] = tables[0];
        tables[0] = first;
        Due.is("set right", x.check(), 0);
    }

    private static void checkSeesDeniedKeys() {
        LsmStore x = filled(5, 1);
        x.flush();
        int filter = Inside.blocks(x, 0, 0)[Inside.blockCount(x, 0, 0) - 1] * BLOCK;
        byte[] cells = Inside.disk(x);
        for (int i = 0; i < BLOCK; i++) {
            cells[filter + i] = 0;
        }
        Due.is("a filter that denies all", x.check(), 5);
        x.key(16, 2, true);
        Due.is("the filter is asked", x.get(-1), -1);
    }

    private static void checkSeesBlocksOfTwoFiles() {
        LsmStore x = filled(70, 20);
        x.compact();
        int[] second = Inside.blocks(x, 2, 1);
        int filter = Inside.blockCount(x, 2, 1) - 1;
        int was = second[filter];
        second[filter] = Inside.blocks(x, 2, 0)[0];
        Due.is("a block of two files", x.check() > 0 ? 1 : 0, 1);
        second[filter] = was;
        Due.is("set right", x.check(), 0);
    }

    private static void checkSeesBlocksOfNone() {
        LsmStore x = filled(5, 1);
        boolean[] taken = (boolean[]) Inside.of(Inside.of(x, "files"), "taken");
        taken[taken.length - 1] = true;
        Due.is("a block of no file", x.check(), 1);
        taken[taken.length - 1] = false;
        Due.is("set right", x.check(), 0);
    }

    private static void blocksAreGivenBack() {
        LsmStore x = filled(70, 20);
        x.compact();
        Object files = Inside.of(x, "files");
        int free = Inside.number(files, "freeBlocks");
        int freeTables = Inside.number(files, "freeTables");
        for (int i = 0; i < 50; i++) {
            x.power(2, i, i);
            try {
                x.compact();
            } catch (ArithmeticException e) {
                x.reopen();
            }
            x.compact();
        }
        Due.is("blocks are given back", Inside.number(files, "freeBlocks"), free);
        Due.is("tables are given back", Inside.number(files, "freeTables"), freeTables);
        Due.is("nothing is wrong", x.check(), 0);
    }
}
