import java.math.BigInteger;

/** The boundaries of promises 9 to 13 and 20: SNAPSHOTS, and what is found in them. */
public final class ViewBoundsTest {
    private static final int[] NO_VIEWS = {-2, 8, 9, -8, 31, 32, 256, Integer.MIN_VALUE, Integer.MAX_VALUE};

    private ViewBoundsTest() {
    }

    /** A call that names a snapshot. */
    private interface Look {
        long at(Face x, int s);
    }

    public static void main(String[] args) {
        snapshots();
        get();
        seekAndBefore();
        digest();
        Due.finish("ViewBoundsTest");
    }

    private static void snapshots() {
        Due.sentence("Promise 9", "A new SNAPSHOT, with the least free number: that", ViewBoundsTest::leastFreeNumber);
        Due.sentence("Promise 9", "IllegalStateException if there are eight", ViewBoundsTest::ninthIsRefused);
        Due.sentence("Promise 10", "SNAPSHOT s goes", ViewBoundsTest::eachGoes);
        Due.sentence("Promise 10", "IllegalStateException; NoSuchElementException if there is none", () -> {
            otherViewsAreRefused("release", ViewBoundsTest::release);
            Refused.call("release(-1)", Refused.NO_SUCH, x -> Make.snapshots(x, 8), x -> x.release(-1));
            Refused.call("release(-1)", Refused.NO_SUCH, x -> Make.keys(x, 1), x -> x.release(-1));
        });
    }

    private static void get() {
        Due.sentence("Promise 11", "THE VALUE becomes that of THE KEY in SNAPSHOT s: how many bytes",
            ViewBoundsTest::valuesOfAllLengths);
        Due.sentence("Promise 11", "-1 if there is none (THE VALUE stays)", ViewBoundsTest::getOfNothing);
        Due.sentence("Promise 11", "IllegalStateException; NoSuchElementException if there is no SNAPSHOT s (nor -1)",
            () -> otherViewsAreRefused("get", Face::get));
    }

    private static void seekAndBefore() {
        Due.sentence("Promise 12",
            "THE KEY and THE VALUE become those of the first KEY in SNAPSHOT s that is not before THE KEY",
            () -> seekFrom(false));
        Due.sentence("Promise 12", "(or, behind, is behind it): how many bytes that KEY has", () -> seekFrom(true));
        Due.sentence("Promise 12", "-1 without (both stay)", ViewBoundsTest::seekOfNothing);
        Due.sentence("Promise 12", "Thrown as by get", () -> {
            otherViewsAreRefused("seek", (x, s) -> x.seek(s, false));
            otherViewsAreRefused("seek behind", (x, s) -> x.seek(s, true));
        });
        Due.sentence("Promise 13", "Likewise of the last KEY before THE KEY", ViewBoundsTest::lastBefore);
        Due.sentence("Promise 13", "Likewise", () -> otherViewsAreRefused("before", Face::before));
    }

    private static void digest() {
        Due.sentence("Promise 20", "From 7 on, for each KEY of SNAPSHOT s in order", ViewBoundsTest::digestOfFew);
        Due.sentence("Promise 20", "then for each of these times 31 and it (0 to 255), then likewise its VALUE",
            ViewBoundsTest::digestOfEachByte);
        Due.sentence("Promise 20", "times 31 and how many bytes it has", ViewBoundsTest::digestWrapsAround);
        Due.sentence("Promise 20", "Thrown as by get", () -> otherViewsAreRefused("digest", Face::digest));
    }

    private static long release(Face x, int s) {
        x.release(s);
        return 0;
    }

    /** Just the snapshots whose bits are set. */
    private static void takeBits(Face x, int bits) {
        Make.snapshots(x, 8);
        for (int s = 0; s < 8; s++) {
            if ((bits >> s & 1) == 0) {
                x.release(s);
            }
        }
    }

    private static void leastFreeNumber() {
        for (int bits = 0; bits < 255; bits++) {
            Face x = Both.fresh();
            Make.keys(x, 1);
            takeBits(x, bits);
            int least = Integer.numberOfTrailingZeros(~bits);
            Due.is("of bits " + bits, x.snapshot(), least);
            Due.is("its bit", x.told(4), bits | 1 << least);
        }
        Face x = Both.fresh();
        Make.snapshots(x, 8);
        x.reopen();
        Due.is("behind reopen", x.snapshot(), 0);
    }

    private static void ninthIsRefused() {
        for (int count = 0; count < 8; count++) {
            Face x = Both.fresh();
            Make.snapshots(x, count);
            Due.is("of " + count, x.snapshot(), count);
        }
        Refused.call("the ninth", Refused.STATE, x -> {
            for (int i = 0; i < 8; i++) {
                Make.keys(x, i);
                x.snapshot();
            }
            Make.keys(x, 8);
        }, Face::snapshot);
        Refused.call("the ninth, of nothing", Refused.STATE, x -> Make.snapshots(x, 8), Face::snapshot);
        Face x = Both.fresh();
        Make.snapshots(x, 8);
        for (int s = 7; s >= 0; s--) {
            Due.thrown("the ninth", Refused.STATE, x::snapshot);
            x.release(s);
            Due.is("the eighth again", x.snapshot(), s);
        }
    }

    private static void eachGoes() {
        for (int s = 0; s < 8; s++) {
            Face x = Both.fresh();
            for (int i = 0; i < 8; i++) {
                Make.keys(x, i);
                x.snapshot();
            }
            int gone = s;
            x.release(s);
            Due.is("seven are left", x.told(4), 255 - (1 << s));
            Due.thrown("it went", Refused.NO_SUCH, () -> x.get(gone));
            x.compact();
            for (int i = 0; i < 8; i++) {
                x.key(i, 2, true);
                if (i != s) {
                    Due.is("the others see what they saw", x.get(i), 3);
                }
                x.key(i + 1, 2, true);
                if (i != s) {
                    Due.is("and nothing newer", x.get(i), -1);
                }
            }
        }
    }

    private static void otherViewsAreRefused(String name, Look look) {
        for (int s : NO_VIEWS) {
            Refused.call(name + "(" + s + "), none there", Refused.NO_SUCH,
                x -> Make.keys(x, 1, 2, 3), x -> look.at(x, s));
            Refused.call(name + "(" + s + "), eight there", Refused.NO_SUCH, x -> {
                Make.keys(x, 1, 2, 3);
                Make.snapshots(x, 8);
            }, x -> look.at(x, s));
        }
        for (int s = 0; s < 8; s++) {
            int one = s;
            Refused.call(name + "(" + s + "), none there", Refused.NO_SUCH,
                x -> Make.keys(x, 1, 2, 3), x -> look.at(x, one));
            Refused.call(name + "(" + s + "), all but it", Refused.NO_SUCH, x -> {
                Make.keys(x, 1, 2, 3);
                takeBits(x, 255 - (1 << one));
            }, x -> look.at(x, one));
            Face x = Both.fresh();
            Make.keys(x, 1, 2, 3);
            takeBits(x, 1 << s);
            look.at(x, s);
            Due.is(name + "(" + s + ") is there", x.told(0), 1);
        }
    }

    private static void valuesOfAllLengths() {
        for (int length : new int[] {0, 1, 7, 8, 9, 127, 128, 129, 199, 200}) {
            Face x = Both.fresh();
            x.key(1, 1, true);
            Make.value(x, length);
            x.put();
            x.snapshot();
            x.value(0x77, 5, true);
            x.put();
            for (int i = 0; i < 2; i++) {
                Due.is("of the snapshot", x.get(0), length);
                Due.is("it is told", x.told(7), length);
                Due.is("of the map", x.get(-1), 5);
                Due.is("nothing behind it", x.bytes(true, 5), 0);
                x.compact();
            }
        }
    }

    private static void getOfNothing() {
        Face x = Both.fresh();
        x.value(0x55, 3, true);
        Due.is("an empty key of an empty map", x.get(-1), -1);
        x.key(1, 1, true);
        Due.is("a key of an empty map", x.get(-1), -1);
        x.snapshot();
        Make.key(x, 0, 31);
        x.value(0, 0, true);
        x.put();
        x.value(0x55, 3, true);
        for (int i = 0; i < 3; i++) {
            Due.is("an empty snapshot", x.get(0), -1);
            Make.key(x, 0, 32);
            Due.is("a longer one", x.get(-1), -1);
            Make.key(x, 0, 30);
            Due.is("a beginning of it", x.get(-1), -1);
            x.key(0, 0, true);
            Due.is("an empty key", x.get(-1), -1);
            Due.is("the value stays", x.bytes(true, 0), 0x55L << 40);
            Make.key(x, 0, 31);
            Due.is("an empty value is there", x.get(-1), 0);
            Due.is("and the value is empty then", x.told(7), 0);
            x.value(0x55, 3, true);
            if (i == 0) {
                x.flush();
            } else {
                x.compact();
            }
        }
        x.remove();
        Due.is("what is removed", x.get(-1), -1);
        Due.is("the value stays", x.told(7), 3);
    }

    /** Keys 0x10, 0x1000, 0x10FF, 0x7F, 0x80 and 32 bytes 0xFF, each with its length and two bytes as a value. */
    private static Face six() {
        Face x = Both.fresh();
        long[] keys = {0x80, 0x10FF, 0x7F, 0x10, 0x1000};
        for (long key : keys) {
            x.key(key, key > 255 ? 2 : 1, true);
            x.value(key, 3, true);
            x.put();
        }
        Make.key(x, -1, 32);
        x.value(0xFFFF, 3, true);
        x.put();
        x.snapshot();
        return x;
    }

    private static void seekIs(Face x, long from, int bytes, boolean behind, long want) {
        Make.key(x, from, bytes);
        int length = want == 0xFFFF ? 32 : want > 255 ? 2 : 1;
        Due.is("from " + Long.toHexString(from), x.seek(0, behind), length);
        Due.is("its first bytes", x.bytes(false, 0), want == 0xFFFF ? -1 : want << 64 - 8 * length);
        Due.is("its value", x.bytes(true, 0), want << 40);
        Due.is("it is told", x.told(6), length);
    }

    private static void seekFrom(boolean behind) {
        pastWhatIsRemoved(false);
        fromAllPlaces(false);
        Face x = six();
        for (int i = 0; i < 2; i++) {
            seekIs(x, 0, 0, behind, 0x10);
            seekIs(x, 0x0FFF, 2, behind, 0x10);
            seekIs(x, 0x10, 1, behind, behind ? 0x1000 : 0x10);
            seekIs(x, 0x1000, 2, behind, behind ? 0x10FF : 0x1000);
            seekIs(x, 0x100000, 3, behind, 0x10FF);
            seekIs(x, 0x10FE, 2, behind, 0x10FF);
            seekIs(x, 0x10FF, 2, behind, behind ? 0x7F : 0x10FF);
            seekIs(x, 0x11, 1, behind, 0x7F);
            seekIs(x, 0x7E, 1, behind, 0x7F);
            seekIs(x, 0x7F, 1, behind, behind ? 0x80 : 0x7F);
            seekIs(x, 0x7F00, 2, behind, 0x80);
            seekIs(x, 0x80, 1, behind, behind ? 0xFFFF : 0x80);
            seekIs(x, -1, 31, behind, 0xFFFF);
            Make.key(x, -1, 32);
            Due.is("from the largest of all", x.seek(0, behind), behind ? -1 : 32);
            x.key(0x10, 1, true);
            x.remove();
            x.compact();
        }
        x.key(0x10, 1, true);
        Due.is("past what is removed", x.seek(-1, behind), 2);
        Due.is("to the next", x.bytes(false, 0), 0x1000L << 48);
    }

    private static void seekOfNothing() {
        for (boolean behind : new boolean[] {false, true}) {
            Face x = Both.fresh();
            x.value(0x55, 1, true);
            Due.is("an empty key in an empty map", x.seek(-1, behind), -1);
            x.key(0x7F, 1, true);
            Due.is("a key in an empty map", x.seek(-1, behind), -1);
            x.put();
            x.key(0x80, 1, true);
            x.value(0x66, 2, true);
            Due.is("behind the last", x.seek(-1, behind), -1);
            Make.key(x, 0x7F, 1);
            x.key(0, 1, false);
            Due.is("just behind the last", x.seek(-1, behind), -1);
            Due.is("the key stays", x.bytes(false, 0), 0x7F00L << 48);
            Due.is("and has its bytes", x.told(6), 2);
            Due.is("the value stays", x.bytes(true, 0), 0x66L << 48);
            x.key(0x7F, 1, true);
            x.remove();
            x.key(0, 0, true);
            Due.is("all is removed", x.seek(-1, behind), -1);
            Due.is("the empty key stays", x.told(6), 0);
            x.compact();
            Due.is("and gone", x.seek(-1, behind), -1);
        }
    }

    private static void beforeIs(Face x, long from, int bytes, long want) {
        Make.key(x, from, bytes);
        x.value(0x66, 2, true);
        int length = want == 0 ? -1 : want > 255 ? 2 : 1;
        Due.is("before " + Long.toHexString(from), x.before(0), length);
        Due.is("its value", x.bytes(true, 0), want == 0 ? 0x66L << 48 : want << 40);
        Due.is("its key", x.told(6), want == 0 ? bytes : length);
    }

    /** Removed keys of any number stand between: in the log, in a file above the keys', and in the same. */
    private static void pastWhatIsRemoved(boolean back) {
        for (int removed : new int[] {1, 2, 3, 10, 40}) {
            Face x = Both.fresh();
            for (int i = 0; i < removed + 2; i++) {
                Make.keys(x, i);
            }
            x.snapshot();
            x.flush();
            for (int i = 1; i <= removed; i++) {
                x.key(i, 2, true);
                x.remove();
            }
            for (int stage = 0; stage < 3; stage++) {
                x.key(back ? removed + 1 : 0, 2, true);
                Due.is("past " + removed, back ? x.before(-1) : x.seek(-1, true), 2);
                Due.is("to the key", x.bytes(false, 0), back ? 0 : removed + 1L << 48);
                Due.is("in the snapshot", back ? x.before(0) : x.seek(0, false), back ? -1 : 2);
                if (stage == 0) {
                    x.flush();
                } else {
                    x.compact();
                }
            }
        }
    }

    /** Of three keys in a row one stands in the lowest level, one in the highest, and one in the log. */
    private static void fromAllPlaces(boolean back) {
        Face x = Both.fresh();
        for (int place = 0; place < 3; place++) {
            for (int i = 0; i < 10; i++) {
                Make.keys(x, i * 3 + (i + place) % 3);
            }
            if (place == 0) {
                x.compact();
            } else if (place == 1) {
                x.flush();
            }
        }
        x.key(back ? 30 : 0, 2, true);
        for (int i = 0; i < 30; i++) {
            int want = back ? 29 - i : i;
            Due.is("one more", back ? x.before(-1) : x.seek(-1, i > 0), 2);
            Due.is("the key", x.bytes(false, 0), (long) want << 48);
            Due.is("its value", x.bytes(true, 0), want * 3L << 40);
        }
        Due.is("no more", back ? x.before(-1) : x.seek(-1, true), -1);
    }

    private static void lastBefore() {
        pastWhatIsRemoved(true);
        fromAllPlaces(true);
        Face x = six();
        for (int i = 0; i < 2; i++) {
            beforeIs(x, 0, 0, 0);
            beforeIs(x, 0, 1, 0);
            beforeIs(x, 0x10, 1, 0);
            beforeIs(x, 0x0FFFFF, 3, 0);
            beforeIs(x, 0x1000, 2, 0x10);
            beforeIs(x, 0x100000, 3, 0x1000);
            beforeIs(x, 0x10FF, 2, 0x1000);
            beforeIs(x, 0x10FF00, 3, 0x10FF);
            beforeIs(x, 0x7F, 1, 0x10FF);
            beforeIs(x, 0x80, 1, 0x7F);
            beforeIs(x, 0x81, 1, 0x80);
            beforeIs(x, -1, 31, 0x80);
            beforeIs(x, -1, 32, 0x80);
            x.key(0x80, 1, true);
            x.remove();
            x.compact();
        }
        Make.key(x, -1, 32);
        Due.is("past what is removed", x.before(-1), 1);
        Due.is("to the one before", x.bytes(false, 0), 0x7FL << 56);
        Face y = Both.fresh();
        Due.is("in an empty map", y.before(-1), -1);
        Make.key(y, -1, 32);
        Due.is("the largest in an empty map", y.before(-1), -1);
        y.put();
        Due.is("the only one", y.before(-1), -1);
        Due.is("stays", y.told(6), 32);
    }

    private static void digestOfFew() {
        Face x = Both.fresh();
        Due.is("none", x.digest(-1), 7);
        x.snapshot();
        x.key(0, 1, true);
        x.put();
        long one = ((7L * 31 + 1) * 31 + 0) * 31 + 0;
        Due.is("one, the smallest", x.digest(-1), one);
        Due.is("none in the snapshot", x.digest(0), 7);
        x.snapshot();
        x.key(0, 2, true);
        x.put();
        Due.is("two", x.digest(-1), (((one * 31 + 2) * 31 + 0) * 31 + 0) * 31 + 0);
        Due.is("one in the snapshot", x.digest(1), one);
        x.remove();
        x.key(0, 1, true);
        x.remove();
        Due.is("none again", x.digest(-1), 7);
        Due.is("the key and the value stay", x.told(6) * 10 + x.told(7), 10);
    }

    private static void digestOfEachByte() {
        for (int cell = 0; cell < 256; cell++) {
            Face x = Both.fresh();
            x.key(cell, 1, true);
            x.value(255 - cell, 1, true);
            x.put();
            long want = (((7L * 31 + 1) * 31 + cell) * 31 + 1) * 31 + 255 - cell;
            Due.is("byte " + cell, x.digest(-1), want);
        }
    }

    /** Far more than a long holds: what is left of the true sum is its low 64 bits. */
    private static void digestWrapsAround() {
        Face x = Both.fresh();
        BigInteger sum = BigInteger.valueOf(7);
        for (int i = 0; i < 6; i++) {
            Make.key(x, 0xF0 + i, 32);
            Make.value(x, 200);
            x.put();
            byte[] key = new byte[32];
            byte[] value = new byte[200];
            for (int at = 0; at < 200; at += 8) {
                copyWord(x.bytes(false, at), key, at);
                copyWord(x.bytes(true, at), value, at);
            }
            sum = mix(mix(sum, key), value);
            Due.is("of " + (i + 1), x.digest(-1), sum.longValue());
        }
        Due.is("the sum is larger than a long", sum.bitLength() > 64 ? 1 : 0, 1);
    }

    private static void copyWord(long word, byte[] to, int at) {
        for (int i = 0; i < 8 && at + i < to.length; i++) {
            to[at + i] = (byte) (word >> (56 - 8 * i));
        }
    }

    private static BigInteger mix(BigInteger sum, byte[] row) {
        BigInteger times = BigInteger.valueOf(31);
        BigInteger mixed = sum.multiply(times).add(BigInteger.valueOf(row.length));
        for (byte cell : row) {
            mixed = mixed.multiply(times).add(BigInteger.valueOf(cell & 255));
        }
        return mixed;
    }
}
