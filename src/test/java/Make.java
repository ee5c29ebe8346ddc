/** Brings a store into a state that tests begin from. */
final class Make {
    /* What a two-byte key takes of SIZE with the largest value, and with an empty one. */
    private static final int LARGE = 8 + 2 + 200;
    private static final int SMALL = 8 + 2;

    private Make() {
    }

    /** THE KEY becomes so many bytes of w, again and again. */
    static void key(Face x, long w, int bytes) {
        x.key(w, Math.min(8, bytes), true);
        for (int left = bytes - 8; left > 0; left -= 8) {
            x.key(w, Math.min(8, left), false);
        }
    }

    /** THE VALUE becomes so many bytes, hardly two of them alike. */
    static void value(Face x, int bytes) {
        x.value(0x0102030405060708L * bytes, Math.min(8, bytes), true);
        for (int left = bytes - 8; left > 0; left -= 8) {
            x.value(0x0102030405060708L * left, Math.min(8, left), false);
        }
    }

    /** Two-byte keys, each with a value of three bytes: 13 of SIZE each. */
    static void keys(Face x, long... keys) {
        for (long key : keys) {
            x.key(key, 2, true);
            x.value(key * 3, 3, true);
            x.put();
        }
    }

    /** An empty MAP gets just this SIZE (10 or more), by keys 0, 1, 2 and on with values as large as can be. */
    static void size(Face x, int size) {
        int left = size;
        int inValue = -1;
        for (int key = 0; left > 0; key++) {
            int entry = left <= LARGE ? left : Math.min(LARGE, left - SMALL);
            if (entry - SMALL != inValue) {
                inValue = entry - SMALL;
                value(x, inValue);
            }
            x.key(key, 2, true);
            x.put();
            left -= entry;
        }
    }

    /** THE BATCH is open with so many puts and removes by turns, of keys from 100 on. */
    static void batch(Face x, int steps) {
        x.begin();
        for (int i = 0; i < steps; i++) {
            x.key(100 + i / 2, 2, true);
            if (i % 2 == 0) {
                x.put();
            } else {
                x.remove();
            }
        }
    }

    static void snapshots(Face x, int count) {
        for (int i = 0; i < count; i++) {
            x.snapshot();
        }
    }

    /** Power failed in a put that is not lasting. */
    static void off(Face x) {
        x.key(0x0F0F, 2, true);
        x.power(0, 0, 0);
        Due.thrown("put as power fails", Refused.POWER, x::put);
    }
}
