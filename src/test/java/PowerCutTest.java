import java.util.Arrays;

/** Power that fails at every write, after every number of bytes, of each call that writes. */
public final class PowerCutTest {
    private static final int[] FEW_CUTS = {0, 1, 2, 3, 4, 5, 6, 7, 9, 17, 18, 100, 255, 256, 299, 300};
    private static final int LOG_AT = Inside.LOG_AT;

    private PowerCutTest() {
    }

    public static void main(String[] args) {
        Due.sentence("What it is", "batches that come whole or not at all", () -> {
            for (int steps : new int[] {1, 2, 5, 30, 64}) {
                cutsBeforeLasting(steps);
            }
            for (int keys : new int[] {8, 30, 66}) {
                cutsBehindLasting(keys);
            }
        });
        Due.sentence("What it is", "power that fails at any byte of any write", () -> {
            for (int call : new int[] {Step.PUT, Step.FLUSH, Step.COMPACT, Step.REOPEN}) {
                imagesGrowByteByByte(call);
            }
            cutsInAllUpkeep();
        });
        Due.sentence("What it is", "A store of keys and values that only ever writes behind what it wrote", () -> {
            for (int call : new int[] {Step.PUT, Step.FLUSH, Step.COMPACT, Step.REOPEN}) {
                for (int keys : new int[] {0, 3, 10, 40, 65}) {
                    nothingThatCountsIsWrittenOver(call, keys);
                }
            }
        });
        placeOfTheLogIsBlank();
        failuresInARow();
        lastingWriteIsCutWhereSaid();
        recordsThatEndWithABlock();
        Due.finish("PowerCutTest");
    }

    private static void cutsInAllUpkeep() {
        for (int call : new int[] {Step.FLUSH, Step.COMPACT, Step.REOPEN}) {
            for (int keys : new int[] {0, 1, 12, 66}) {
                cutsInUpkeep(call, keys);
            }
        }
    }

    /** The same calls on a store and its model: the same state, each time. */
    private static final class Pair {
        final Store store = new Store();
        final Model model = new Model();

        String call(int kind, long w, int a, int b, boolean f) {
            Step step = new Step(kind, w, a, b, f);
            String want = step.on(model);
            Due.same(step.text(), step.on(store), want);
            return want;
        }

        void fill(int keys, int valueWords) {
            call(Step.VALUE, 0, 0, 0, true);
            for (int i = 0; i < valueWords; i++) {
                call(Step.VALUE, 0xA5A5A5A500L + i, 8, 0, false);
            }
            for (int i = 0; i < keys; i++) {
                call(Step.KEY, i * 37 % 67, 2, 0, true);
                call(Step.PUT, 0, 0, 0, false);
            }
        }

        void compare(String where) {
            Due.same(where, Step.state(store), Step.state(model));
        }

        /** What was left must also be good to go on from. */
        void goOn(String where) {
            compare(where + ", OFF");
            call(Step.REOPEN, 0, 0, 0, false);
            compare(where + ", on");
            call(Step.KEY, 0x0203, 2, 0, true);
            call(Step.VALUE, 0x99, 2, 0, true);
            call(Step.PUT, 0, 0, 0, false);
            call(Step.KEY, 37, 2, 0, true);
            call(Step.REMOVE, 0, 0, 0, false);
            call(Step.FLUSH, 0, 0, 0, false);
            call(Step.REOPEN, 0, 0, 0, false);
            compare(where + ", on again");
        }
    }

    private static void cutsBeforeLasting(int steps) {
        for (int b = 0; b <= 300; b += steps == 1 ? 1 : 7) {
            Pair pair = new Pair();
            pair.fill(5, steps % 4 * 8);
            pair.call(Step.BEGIN, 0, 0, 0, false);
            for (int i = 0; i < steps; i++) {
                pair.call(Step.KEY, i, 2, 0, true);
                pair.call(i % 5 == 3 ? Step.REMOVE : Step.PUT, 0, 0, 0, false);
            }
            pair.call(Step.POWER, 0, b, b, false);
            String answer = pair.call(Step.COMMIT, 0, 0, 0, false);
            Due.same("it failed", answer, "throws.ArithmeticException");
            pair.goOn(steps + " steps, cut before lasting after " + b);
        }
    }

    private static void cutsBehindLasting(int keys) {
        for (int k = 0; k <= 90; k++) {
            for (int b : k % 3 == 0 ? FEW_CUTS : new int[] {0, k}) {
                Pair pair = new Pair();
                pair.fill(keys, 22);
                pair.call(Step.SNAPSHOT, 0, 0, 0, false);
                pair.call(Step.BEGIN, 0, 0, 0, false);
                for (int i = 0; i < 12; i++) {
                    pair.call(Step.KEY, i * 5 + 1, 2, 0, true);
                    pair.call(i % 5 == 3 ? Step.REMOVE : Step.PUT, 0, 0, 0, false);
                }
                pair.call(Step.POWER, 1, k, b, false);
                String answer = pair.call(Step.COMMIT, 0, 0, 0, false);
                Due.same("it failed", answer, "throws.ArithmeticException");
                pair.goOn(keys + " keys, behind lasting, write " + k + " after " + b);
            }
        }
    }

    private static void cutsInUpkeep(int call, int keys) {
        for (int k = 0; k <= 400; k += k < 130 ? 1 : 54) {
            for (int b : k % 4 == 0 ? FEW_CUTS : new int[] {0, 1, 300}) {
                Pair pair = new Pair();
                pair.fill(keys, 22);
                pair.call(Step.POWER, 2, k, b, false);
                String answer = pair.call(call, 0, 0, 0, false);
                Due.same("it failed", answer, "throws.ArithmeticException");
                pair.goOn("call " + call + " of " + keys + " keys, write " + k + " after " + b);
            }
        }
    }

    /** A put that fills the log, or upkeep of a file and a log; as said by k, or whole if k is below 0. */
    private static byte[] cutImage(int call, int k, int b) {
        Pair pair = new Pair();
        if (call == Step.PUT) {
            pair.fill(24, 9);
            pair.call(Step.KEY, 0x0708, 2, 0, true);
        } else {
            pair.fill(9, 9);
            pair.call(Step.FLUSH, 0, 0, 0, false);
            pair.fill(20, 3);
        }
        int when = call == Step.PUT ? 1 : 2;
        pair.call(Step.POWER, k < 0 ? 3 : when, Math.max(0, k), b, false);
        pair.call(call, 0, 0, 0, false);
        return Inside.disk(pair.store.store);
    }

    private static int differences(byte[] a, byte[] b) {
        int differences = 0;
        for (int i = 0; i < a.length; i++) {
            differences += a[i] == b[i] ? 0 : 1;
        }
        return differences;
    }

    private static int undone(byte[] before, byte[] last, byte[] next) {
        int undone = 0;
        for (int i = 0; i < last.length; i++) {
            undone += last[i] != before[i] && next[i] != last[i] ? 1 : 0;
        }
        return undone;
    }

    /** A cut one byte later may leave one byte more on the disk, and nothing else; the next write keeps them. */
    private static void imagesGrowByteByByte(int call) {
        byte[] last = cutImage(call, 0, 0);
        byte[] end = cutImage(call, -1, 0);
        byte[] before = last;
        int changes = 0;
        for (int k = 0; k <= 400 && !Arrays.equals(last, end); k++) {
            for (int b = 0; b <= 300; b++) {
                byte[] next = cutImage(call, k, b);
                if (b == 0) {
                    Due.is("call " + call + ", what write " + k + " undoes", undone(before, last, next), 0);
                    before = next;
                }
                int different = differences(last, next);
                int most = b > 0 ? 1 : 512 - 300;
                Due.is("call " + call + ", write " + k + " after " + b, Math.max(different, most), most);
                changes += different;
                last = next;
            }
        }
        Due.is("call " + call + " has writes that are cut", changes > 300 ? 1 : 0, 1);
        Due.is("call " + call + " comes to its end", differences(last, end) == 0 ? 1 : 0, 1);
    }

    /** What is on the disk before write k of a call, or behind all if k is below 0. */
    private static byte[] imageBefore(int call, int keys, int k) {
        Pair pair = new Pair();
        pair.fill(keys, 22);
        pair.call(Step.SNAPSHOT, 0, 0, 0, false);
        pair.fill(keys / 3, 3);
        pair.call(Step.VALUE, 0x77, 8, 0, false);
        pair.call(Step.KEY, 0x0708, 2, 0, true);
        pair.call(Step.POWER, k < 0 ? 3 : call == Step.PUT ? 1 : 2, Math.max(0, k), 0, false);
        pair.call(call, 0, 0, 0, false);
        return Inside.disk(pair.store.store);
    }

    /** Each write leaves alone what counted before it. */
    private static void nothingThatCountsIsWrittenOver(int call, int keys) {
        byte[] end = imageBefore(call, keys, -1);
        byte[] before = imageBefore(call, keys, 0);
        for (int k = 1; k <= 400 && !Arrays.equals(before, end); k++) {
            byte[] behind = imageBefore(call, keys, k);
            boolean[] counting = Inside.counting(before);
            int over = 0;
            for (int i = 0; i < before.length; i++) {
                over += counting[i] && before[i] != behind[i] ? 1 : 0;
            }
            Due.is("call " + call + " of " + keys + " keys, bytes that write " + (k - 1) + " changes", over, 0);
            before = behind;
        }
        Due.is("call " + call + " comes to its end", differences(before, end), 0);
    }

    private static void failuresInARow() {
        Pair pair = new Pair();
        pair.fill(66, 22);
        for (int i = 0; i < 400; i++) {
            pair.call(Step.POWER, 2, i % 61, i * 7 % 301, false);
            pair.call(i % 3 == 0 ? Step.FLUSH : i % 3 == 1 ? Step.COMPACT : Step.REOPEN, 0, 0, 0, false);
            pair.compare("failure " + i + ", OFF");
            if (i % 4 != 0) {
                pair.call(Step.REOPEN, 0, 0, 0, false);
                pair.compare("failure " + i + ", on");
            }
        }
    }

    private static void lastingWriteIsCutWhereSaid() {
        int record = 2 + 8 + 2 + 3 + 1;
        for (int b = 0; b <= 300; b++) {
            LsmStore x = new LsmStore();
            x.key(0x0102, 2, true);
            x.value(0x030405, 3, true);
            x.power(0, 0, b);
            Due.same("put", Due.answer(x::put), "throws.ArithmeticException");
            byte[] cut = Inside.disk(x);
            LsmStore y = new LsmStore();
            y.key(0x0102, 2, true);
            y.value(0x030405, 3, true);
            y.put();
            byte[] whole = Inside.disk(y);
            int reached = Math.min(b, record - 1);
            for (int i = 0; i < record; i++) {
                int want = i < reached ? whole[LOG_AT + i] : 0;
                Due.is("cut after " + b + ", byte " + i, cut[LOG_AT + i], want);
            }
        }
    }

    /** The mark may stand last in a block, or first and alone in the next one. */
    private static void recordsThatEndWithABlock() {
        for (int inValue = 70; inValue <= 80; inValue++) {
            for (int when = 0; when <= 1; when++) {
                for (int b : FEW_CUTS) {
                    Pair pair = new Pair();
                    pair.fill(2, 25);
                    pair.call(Step.VALUE, 0, 0, 0, true);
                    for (int i = 0; i < inValue; i++) {
                        pair.call(Step.VALUE, i, 1, 0, false);
                    }
                    pair.call(Step.KEY, 1, 1, 0, true);
                    pair.call(Step.POWER, when, 0, b, false);
                    String answer = pair.call(Step.PUT, 0, 0, 0, false);
                    Due.same("it failed", answer, "throws.ArithmeticException");
                    pair.goOn("a value of " + inValue + ", when " + when + ", cut after " + b);
                }
            }
            placeIsBlankAgain(inValue);
        }
    }

    private static void placeIsBlankAgain(int inValue) {
        LsmStore x = new LsmStore();
        for (int i = 0; i < 200; i++) {
            x.value(i, 1, false);
        }
        x.key(1, 2, true);
        x.put();
        x.put();
        for (int i = 0; i < inValue; i++) {
            x.value(i, 1, i == 0);
        }
        x.key(1, 1, true);
        x.put();
        x.flush();
        x.flush();
        x.put();
        x.flush();
        Due.is("blank where a log ended by a value of " + inValue, soiled(x), 0);
    }

    /** A large record that was cut must not shine through when its place is used again. */
    private static void placeOfTheLogIsBlank() {
        for (int b = 0; b <= 300; b += 20) {
            for (boolean fresh : new boolean[] {false, true}) {
                LsmStore x = new LsmStore();
                for (int i = 0; i < 25; i++) {
                    x.value(0xA5A5A5A5A5A5A5A5L, 8, i == 0);
                }
                x.begin();
                for (int i = 0; i < 64; i++) {
                    x.key(i, 2, true);
                    x.put();
                }
                x.power(0, 0, b);
                Due.same("commit", Due.answer(x::commit), "throws.ArithmeticException");
                x = fresh ? Inside.fromDiskOf(x) : x;
                for (int i = 0; i < 4; i++) {
                    x.reopen();
                    Due.is("blank behind the log", soiled(x), 0);
                    x.key(1, 1, true);
                    x.put();
                    Due.is("blank behind the log", soiled(x), 0);
                    x.flush();
                    Due.is("blank behind the log", soiled(x), 0);
                    LsmStore y = Inside.fromDiskOf(x);
                    y.reopen();
                    Due.is("blank behind the log", soiled(y), 0);
                }
            }
        }
    }

    private static int soiled(LsmStore x) {
        Object log = Inside.of(x, "log");
        int start = LOG_AT + Inside.number(log, "area") * Inside.LOG_BYTES;
        int soiled = 0;
        for (int i = Inside.number(log, "used"); i < Inside.LOG_BYTES; i++) {
            soiled += Inside.disk(x)[start + i] == 0 ? 0 : 1;
        }
        return soiled;
    }
}
