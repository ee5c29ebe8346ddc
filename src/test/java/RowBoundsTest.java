import java.util.function.IntPredicate;

/** The boundaries of promises 2, 3 and 14: THE KEY, THE VALUE, and the bytes of them. */
public final class RowBoundsTest {
    private static final boolean KEY = false;
    private static final boolean VALUE = true;
    private static final int[] FAR = {-1, 9, -8, 16, 255, 256, Integer.MAX_VALUE, Integer.MIN_VALUE,
        Integer.MAX_VALUE - 31, Integer.MIN_VALUE + 31, Integer.MAX_VALUE - 199};
    private static final long[] WORDS = {0x8182838485868788L, 0x7F80FF0001FE817EL, 0, -1,
        Long.MIN_VALUE, Long.MAX_VALUE};

    private RowBoundsTest() {
    }

    public static void main(String[] args) {
        key();
        value();
        bytes();
        Due.finish("RowBoundsTest");
    }

    private static void key() {
        Due.sentence("Terms", "THE KEY and THE VALUE are rows of bytes that are put together, or told", () -> {
            oneRowLeavesTheOther();
            rowsAreTold();
        });
        Due.sentence("Promise 2", "The low n (0 to 8) bytes of w, the highest first, come to THE KEY",
            () -> lowBytesComeHighestFirst(KEY));
        Due.sentence("Promise 2", "(fresh: which is empty before): how many it has", () -> freshIsEmptyBefore(KEY));
        Due.sentence("Promise 2", "IllegalArgumentException for another n", () -> anotherCountIsRefused(KEY));
        Due.sentence("Promise 2", "or if it would have more than 32", () -> noMoreThan(KEY, 32, l -> true));
    }

    private static void value() {
        String likewise = "Likewise THE VALUE";
        Due.sentence("Promise 3", likewise, () -> lowBytesComeHighestFirst(VALUE));
        Due.sentence("Promise 3", likewise, () -> freshIsEmptyBefore(VALUE));
        Due.sentence("Promise 3", likewise, () -> anotherCountIsRefused(VALUE));
        Due.sentence("Promise 3", "of at most 200",
            () -> noMoreThan(VALUE, 200, l -> l < 2 || l > 30 && l < 34 || l > 189));
    }

    private static void bytes() {
        Due.sentence("Promise 14",
            "Eight bytes of THE KEY, or (value) THE VALUE, from byte at (0 to 200) on, the first one highest",
            RowBoundsTest::bytesFromEveryPlace);
        Due.sentence("Promise 14", "0 behind the end", RowBoundsTest::nothingIsBehindTheEnd);
        Due.sentence("Promise 14", "IllegalArgumentException for another at", RowBoundsTest::anotherPlaceIsRefused);
    }

    private static int add(Face x, boolean value, long w, int n, boolean fresh) {
        return value ? x.value(w, n, fresh) : x.key(w, n, fresh);
    }

    private static void fill(Face x, boolean value, int bytes) {
        if (value) {
            Make.value(x, bytes);
        } else {
            Make.key(x, 0xF1F2F3F4F5F6F7F8L, bytes);
        }
    }

    private static int most(boolean value) {
        return value ? 200 : 32;
    }

    private static void lowBytesComeHighestFirst(boolean value) {
        for (long w : WORDS) {
            Face x = Both.fresh();
            for (int n = 0; n <= 8; n++) {
                long want = n == 0 ? 0 : w << (64 - 8 * n);
                Due.is(n + " bytes", add(x, value, w, n, true), n);
                Due.is(n + " bytes are these", x.bytes(value, 0), want);
                Due.is(n + " more", add(x, value, w, n, false), 2 * n);
                Due.is(n + " more are these", x.bytes(value, n), want);
            }
        }
    }

    private static void freshIsEmptyBefore(boolean value) {
        for (int length : new int[] {0, 1, 8, 31, 32, most(value) - 1, most(value)}) {
            for (int n = 0; n <= 8; n++) {
                Face x = Both.fresh();
                fill(x, value, length);
                Due.is("none come to " + length, add(x, value, -1, 0, false), length);
                Due.is("fresh, behind " + length, add(x, value, -1, n, true), n);
                Due.is("nothing of " + length + " is left", x.bytes(value, n), 0);
                Due.is("it is told", x.told(value ? 7 : 6), n);
            }
        }
    }

    private static void anotherCountIsRefused(boolean value) {
        for (int length : new int[] {0, 5, most(value)}) {
            Face x = Both.fresh();
            fill(x, value, length);
            Due.is("0 is in", add(x, value, 7, 0, false), length);
            Due.is("8 is in", add(x, value, 7, 8, true), 8);
            for (int n : FAR) {
                for (boolean fresh : new boolean[] {false, true}) {
                    Refused.call(n + " bytes to " + length, Refused.ARGUMENT,
                        y -> fill(y, value, length), y -> add(y, value, 7, n, fresh));
                }
            }
        }
    }

    private static void noMoreThan(boolean value, int most, IntPredicate isLooked) {
        for (int length = 0; length <= most; length++) {
            for (int n = 0; n <= 8 && isLooked.test(length); n++) {
                int bytes = length;
                int more = n;
                if (length + n <= most) {
                    Face x = Both.fresh();
                    fill(x, value, length);
                    Due.is(length + " and " + n, add(x, value, -2, n, false), length + n);
                    Due.is("it is told", x.told(value ? 7 : 6), length + n);
                } else {
                    Refused.call(length + " and " + n, Refused.ARGUMENT,
                        x -> fill(x, value, bytes), x -> add(x, value, -2, more, false));
                }
            }
        }
    }

    private static void oneRowLeavesTheOther() {
        Face x = Both.fresh();
        fill(x, KEY, 32);
        Due.is("the value is empty", x.told(7), 0);
        fill(x, VALUE, 200);
        Due.is("the key stays", x.told(6), 32);
        Due.is("and its last bytes", x.bytes(KEY, 24), 0xF1F2F3F4F5F6F7F8L);
        x.key(0, 0, true);
        Due.is("the value stays", x.told(7), 200);
        Due.is("and its last bytes", x.bytes(VALUE, 192), 0x0102030405060708L * 8);
    }

    /** What get, seek and before tell is what bytes, told and put use then, as if it had been put together. */
    private static void rowsAreTold() {
        Face x = Both.fresh();
        fill(x, KEY, 32);
        fill(x, VALUE, 200);
        x.put();
        x.value(0x0A0B, 2, true);
        Due.is("get tells the value", x.get(-1), 200);
        Due.is("its last bytes", x.bytes(VALUE, 192), 0x0102030405060708L * 8);
        x.key(0, 0, true);
        x.value(0, 0, true);
        Due.is("seek tells both", x.seek(-1, false), 32);
        Due.is("the key's last bytes", x.bytes(KEY, 24), 0xF1F2F3F4F5F6F7F8L);
        Due.is("the value's", x.told(7), 200);
        x.key(-1, 8, true);
        x.value(0, 0, true);
        Due.is("before tells both", x.before(-1), 32);
        Due.is("the value's", x.told(7), 200);
        Due.is("what is told is put again", x.put(), 240);
        x.key(0, 0, true);
        x.seek(-1, false);
        Due.thrown("more than 32 with what is told", Refused.ARGUMENT, () -> x.key(1, 1, false));
        Due.thrown("more than 200 with what is told", Refused.ARGUMENT, () -> x.value(1, 1, false));
        Due.is("what is told is removed", x.remove(), 0);
    }

    /** Byte i of the row is i + 1, so that every place has a byte of its own. */
    private static Face counted(boolean value, int length) {
        Face x = Both.fresh();
        add(x, value, 0, 0, true);
        for (int i = 0; i < length; i += 8) {
            int n = Math.min(8, length - i);
            long w = 0;
            for (int j = i; j < i + n; j++) {
                w = w << 8 | j + 1;
            }
            add(x, value, w, n, false);
        }
        return x;
    }

    private static long wordFrom(int at, int length) {
        long word = 0;
        for (int i = at; i < at + 8; i++) {
            word = word << 8 | (i < length ? i + 1 : 0);
        }
        return word;
    }

    private static void bytesFromEveryPlace() {
        for (boolean value : new boolean[] {KEY, VALUE}) {
            Face x = counted(value, most(value));
            for (int at = 0; at <= 200; at++) {
                Due.is("from " + at, x.bytes(value, at), wordFrom(at, most(value)));
            }
            Due.is("of the other row", x.bytes(!value, 0), 0);
        }
    }

    private static void nothingIsBehindTheEnd() {
        for (boolean value : new boolean[] {KEY, VALUE}) {
            for (int length : new int[] {0, 1, 7, 8, 9, 31, 32, most(value) - 1, most(value)}) {
                Face x = counted(value, length);
                for (int at = Math.max(0, length - 9); at <= Math.min(200, length + 9); at++) {
                    Due.is("from " + at + " of " + length, x.bytes(value, at), wordFrom(at, length));
                }
                Due.is("from 199 of " + length, x.bytes(value, 199), wordFrom(199, length));
                Due.is("from 200 of " + length, x.bytes(value, 200), 0);
                add(x, value, 0x55, 1, true);
                Due.is("nothing of what was longer", x.bytes(value, 0), 0x55L << 56);
                Due.is("nor further behind", x.bytes(value, 1), 0);
            }
        }
    }

    private static void anotherPlaceIsRefused() {
        for (boolean value : new boolean[] {KEY, VALUE}) {
            Face x = counted(value, 9);
            Due.is("0 is in", x.bytes(value, 0), 0x0102030405060708L);
            Due.is("200 is in", x.bytes(value, 200), 0);
            for (int at : new int[] {-1, 201, -8, 256, Integer.MIN_VALUE, Integer.MAX_VALUE, Integer.MAX_VALUE - 7}) {
                Refused.call("from " + at, Refused.ARGUMENT,
                    y -> Make.keys(y, 1, 2), y -> y.bytes(value, at));
                Refused.call("from " + at + ", OFF", Refused.ARGUMENT, Make::off, y -> y.bytes(value, at));
            }
        }
    }
}
