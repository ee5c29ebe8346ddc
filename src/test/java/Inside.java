import java.lang.reflect.Field;
import java.lang.reflect.Method;

/** A look inside the store, for what its face cannot show. */
final class Inside {
    private Inside() {
    }

    static Object of(Object owner, String name) {
        try {
            Field field = owner.getClass().getDeclaredField(name);
            field.setAccessible(true);
            return field.get(owner);
        } catch (ReflectiveOperationException e) {
            throw new IllegalStateException("no field " + name, e);
        }
    }

    static void set(Object owner, String name, int value) {
        try {
            Field field = owner.getClass().getDeclaredField(name);
            field.setAccessible(true);
            field.setInt(owner, value);
        } catch (ReflectiveOperationException e) {
            throw new IllegalStateException("no field " + name, e);
        }
    }

    static int number(Object owner, String name) {
        return (Integer) of(owner, name);
    }

    static byte[] disk(LsmStore store) {
        return (byte[]) of(of(store, "disk"), "cells");
    }

    static Object level(LsmStore store, int level) {
        return ((Object[]) of(store, "levels"))[level];
    }

    static int tables(LsmStore store, int level) {
        return number(level(store, level), "count");
    }

    static Object table(LsmStore store, int level, int i) {
        return ((Object[]) of(level(store, level), "tables"))[i];
    }

    static int[] blocks(LsmStore store, int level, int i) {
        return (int[]) of(table(store, level, i), "blocks");
    }

    static int blockCount(LsmStore store, int level, int i) {
        return number(table(store, level, i), "count");
    }

    static boolean allows(Object table, byte[] key) {
        try {
            Method method = table.getClass()
                .getDeclaredMethod("allows", byte[].class, int.class, int.class);
            method.setAccessible(true);
            return (Boolean) method.invoke(table, key, 0, key.length);
        } catch (ReflectiveOperationException e) {
            throw new IllegalStateException("no method allows", e);
        }
    }

    /** A new store that has nothing of another but its disk. */
    static LsmStore fromDiskOf(LsmStore store) {
        LsmStore next = new LsmStore();
        byte[] from = disk(store);
        System.arraycopy(from, 0, disk(next), 0, from.length);
        return next;
    }
}
