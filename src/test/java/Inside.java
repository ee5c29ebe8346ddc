import java.lang.reflect.Field;
import java.lang.reflect.Method;
import java.util.Arrays;

/** A look inside the store, for what its face cannot show. */
final class Inside {
    static final int BLOCK = 512;
    static final int HEAD_BYTES = 4 * BLOCK;
    static final int LOG_AT = 2 * HEAD_BYTES;
    static final int LOG_BYTES = 36 * BLOCK;

    private Inside() {
    }

    static Object of(Object owner, String name) {
        try {
            Field field = owner.getClass().getDeclaredField(name);
            field.setAccessible(true);
            return field.get(owner);
        } catch (ReflectiveOperationException e) {
            throw new IllegalStateException("no field " + name, e);
        }
    }

    static void set(Object owner, String name, int value) {
        try {
            Field field = owner.getClass().getDeclaredField(name);
            field.setAccessible(true);
            field.setInt(owner, value);
        } catch (ReflectiveOperationException e) {
            throw new IllegalStateException("no field " + name, e);
        }
    }

    static int number(Object owner, String name) {
        return (Integer) of(owner, name);
    }

    static byte[] disk(LsmStore store) {
        return (byte[]) of(of(store, "disk"), "cells");
    }

    static Object level(LsmStore store, int level) {
        return ((Object[]) of(store, "levels"))[level];
    }

    static int tables(LsmStore store, int level) {
        return number(level(store, level), "count");
    }

    static Object table(LsmStore store, int level, int i) {
        return ((Object[]) of(level(store, level), "tables"))[i];
    }

    static int[] blocks(LsmStore store, int level, int i) {
        return (int[]) of(table(store, level, i), "blocks");
    }

    static int blockCount(LsmStore store, int level, int i) {
        return number(table(store, level, i), "count");
    }

    static boolean allows(Object table, byte[] key) {
        try {
            Method method = table.getClass()
                .getDeclaredMethod("allows", byte[].class, int.class, int.class);
            method.setAccessible(true);
            return (Boolean) method.invoke(table, key, 0, key.length);
        } catch (ReflectiveOperationException e) {
            throw new IllegalStateException("no method allows", e);
        }
    }

    /** A new store that has nothing of another but its disk. */
    static LsmStore fromDiskOf(LsmStore store) {
        return fromDisk(disk(store));
    }

    private static LsmStore fromDisk(byte[] image) {
        LsmStore next = new LsmStore();
        System.arraycopy(image, 0, disk(next), 0, image.length);
        return next;
    }

    /** Which bytes of a disk reopen would read: those of the newest whole head, of its files and of its log. */
    static boolean[] counting(byte[] image) {
        LsmStore store = fromDisk(image);
        load(store);
        boolean[] counting = new boolean[image.length];
        int generation = number(of(store, "head"), "generation");
        if (generation > 0) {
            int start = generation % 2 * HEAD_BYTES;
            int length = (image[start + 4] & 255) << 8 | image[start + 5] & 255;
            Arrays.fill(counting, start, start + length + 1, true);
        }
        Object log = of(store, "log");
        int start = LOG_AT + number(log, "area") * LOG_BYTES;
        Arrays.fill(counting, start, start + number(log, "used"), true);
        for (int level = 0; level < 3; level++) {
            for (int i = 0; i < tables(store, level); i++) {
                for (int n = 0; n < blockCount(store, level, i); n++) {
                    int block = blocks(store, level, i)[n] * BLOCK;
                    Arrays.fill(counting, block, block + BLOCK, true);
                }
            }
        }
        return counting;
    }

    private static void load(LsmStore store) {
        try {
            Method method = LsmStore.class.getDeclaredMethod("load");
            method.setAccessible(true);
            method.invoke(store);
        } catch (ReflectiveOperationException e) {
            throw new IllegalStateException("no method load", e);
        }
    }
}
