/** The boundaries that the document's terms name: as seen from the log, from files and behind reopen. */
public final class TermsBoundsTest {
    private TermsBoundsTest() {
    }

    public static void main(String[] args) {
        keysAndValues();
        batchAndSnapshots();
        commitsAndOff();
        Due.finish("TermsBoundsTest");
    }

    private static void keysAndValues() {
        Due.sentence("Terms", "KEYS have 1 to 32 bytes", TermsBoundsTest::keysOfAllLengths);
        Due.sentence("Terms", "VALUES 0 to 200", TermsBoundsTest::valuesOfAllLengths);
        Due.sentence("Terms", "KEYS are ordered byte by byte (0 to 255)", TermsBoundsTest::orderOfBytes);
        Due.sentence("Terms", "a beginning before what it begins", TermsBoundsTest::orderOfBeginnings);
        Due.sentence("Terms", "THE MAP has a VALUE for each of some KEYS", TermsBoundsTest::oneValueForEachKey);
        Due.sentence("Terms", "its SIZE is the sum of 8 and the bytes of KEY and VALUE of all",
            TermsBoundsTest::sizeOfAll);
        Due.sentence("Terms", "at most 16000", TermsBoundsTest::largestMap);
    }

    private static void batchAndSnapshots() {
        Due.sentence("Terms", "THE BATCH, if it is open, is a row of at most 64 puts and removes",
            TermsBoundsTest::longestBatch);
        Due.sentence("Terms", "that are not done yet", TermsBoundsTest::batchIsNotDoneYet);
        Due.sentence("Terms", "SNAPSHOTS 0 to 7 are THE MAP as it was when each was taken",
            TermsBoundsTest::eightViews);
        Due.sentence("Terms", "-1 is THE MAP itself", TermsBoundsTest::mapItself);
    }

    private static void commitsAndOff() {
        Due.sentence("Terms",
            "COMMITS are a put or remove without a BATCH, and the end of a BATCH (also an empty one)",
            TermsBoundsTest::whatIsACommit);
        Due.sentence("Terms", "A COMMIT is lasting as a whole or not at all", TermsBoundsTest::wholeOrNotAtAll);
        Due.sentence("Terms", "if power fails in it, just if it failed behind the write that makes it so",
            TermsBoundsTest::justBehindTheWrite);
        Due.sentence("Terms", "The store is OFF then, till reopen", TermsBoundsTest::offTillReopen);
        Due.sentence("Terms",
            "THE MAP is what lasting COMMITS made it, there are no SNAPSHOTS, no BATCH (THE KEY and THE VALUE stay)",
            TermsBoundsTest::whatIsLeft);
        Due.sentence("Terms", "IllegalStateException, first of all, of each call that says so, if it is OFF",
            TermsBoundsTest::callsAsItIsOff);
    }

    /** From the log, from a file, from files put together, and behind reopen. */
    private static void moveOn(Face x, int stage) {
        if (stage == 0) {
            x.flush();
        } else if (stage == 1) {
            x.compact();
        } else {
            x.reopen();
        }
    }

    private static void keysOfAllLengths() {
        for (int length = 1; length <= 32; length++) {
            Face x = Both.fresh();
            Make.key(x, 0xA1A2A3A4A5A6A7A8L, length);
            x.value(length, 1, true);
            Due.is("put of " + length, x.put(), 9 + length);
            for (int stage = 0; stage < 4; stage++) {
                Due.is("get of " + length, x.get(-1), 1);
                x.key(0, 0, true);
                Due.is("seek of " + length, x.seek(-1, false), length);
                x.key(0xFF, 1, true);
                Due.is("before, of " + length, x.before(-1), length);
                moveOn(x, stage);
            }
            Due.is("remove of " + length, x.remove(), 0);
        }
        Refused.call("put of 0", Refused.ARGUMENT, x -> Make.value(x, 3), Face::put);
        Refused.call("remove of 0", Refused.ARGUMENT, x -> Make.value(x, 3), Face::remove);
        Refused.call("a key of 33", Refused.ARGUMENT, x -> Make.key(x, 5, 32), x -> x.key(5, 1, false));
    }

    private static void valuesOfAllLengths() {
        for (int length = 0; length <= 200; length++) {
            Face x = Both.fresh();
            x.key(1, 1, true);
            Make.value(x, length);
            Due.is("put of " + length, x.put(), 9 + length);
            String due = Step.state(x);
            for (int stage = 0; stage < 4; stage++) {
                x.value(-1, 8, true);
                Due.is("get of " + length, x.get(-1), length);
                Due.same("its bytes", Step.state(x), due);
                moveOn(x, stage);
            }
        }
        Refused.call("a value of 201", Refused.ARGUMENT, x -> Make.value(x, 200), x -> x.value(5, 1, false));
    }

    /** Keys with the same bytes before the last: found in the order of the last, both ways. */
    private static void lastBytesInOrder(long shared, int sharedBytes) {
        int[] cells = {128, 0, 255, 1, 127, 254, 129};
        int[] inOrder = {0, 1, 127, 128, 129, 254, 255};
        Face x = Both.fresh();
        for (int cell : cells) {
            Make.key(x, shared, sharedBytes);
            x.key(cell, 1, false);
            x.put();
        }
        for (int stage = 0; stage < 4; stage++) {
            x.key(0, 0, true);
            for (int cell : inOrder) {
                Due.is("the next", x.seek(-1, true), sharedBytes + 1);
                Due.is("its last byte", x.bytes(false, sharedBytes) >>> 56, cell);
            }
            Due.is("none behind", x.seek(-1, true), -1);
            for (int i = inOrder.length - 2; i >= 0; i--) {
                Due.is("the one before", x.before(-1), sharedBytes + 1);
                Due.is("its last byte", x.bytes(false, sharedBytes) >>> 56, inOrder[i]);
            }
            Due.is("none before", x.before(-1), -1);
            moveOn(x, stage);
        }
    }

    private static void orderOfBytes() {
        lastBytesInOrder(0, 0);
        lastBytesInOrder(0x80, 1);
        lastBytesInOrder(-1, 31);
        lastBytesInOrder(0, 31);
    }

    private static void orderOfBeginnings() {
        for (long w : new long[] {0, -1}) {
            Face x = Both.fresh();
            for (int length = 32; length >= 1; length--) {
                Make.key(x, w, length);
                x.put();
            }
            for (int stage = 0; stage < 2; stage++) {
                x.key(0, 0, true);
                for (int length = 1; length <= 32; length++) {
                    Due.is("the next", x.seek(-1, true), length);
                }
                Due.is("none behind", x.seek(-1, true), -1);
                for (int length = 31; length >= 1; length--) {
                    Due.is("the one before", x.before(-1), length);
                }
                Due.is("none before", x.before(-1), -1);
                x.compact();
            }
        }
    }

    /** Keys that are alike but for one byte or their length keep each its own value; a new one takes its place. */
    private static void oneValueForEachKey() {
        Face x = Both.fresh();
        int[] lengths = {1, 2, 3, 31, 32};
        for (int round = 0; round < 4; round++) {
            for (int length : lengths) {
                Make.key(x, 0x4141414141414141L, length);
                x.value(length * 16 + round, 2, true);
                x.put();
            }
            Due.is("as many keys", x.told(2), lengths.length);
            for (int length : lengths) {
                Make.key(x, 0x4141414141414141L, length);
                Due.is("a value", x.get(-1), 2);
                Due.is("its own", x.bytes(true, 0), (long) (length * 16 + round) << 48);
            }
            Make.key(x, 0x4141414141414141L, 4);
            Due.is("none for another key", x.get(-1), -1);
            moveOn(x, round);
        }
    }

    private static void sizeOfAll() {
        Face x = Both.fresh();
        Due.is("none", x.told(1), 0);
        x.key(1, 1, true);
        Due.is("the smallest", x.put(), 9);
        Make.key(x, 1, 32);
        Due.is("the longest key", x.put(), 9 + 40);
        x.key(2, 1, true);
        Make.value(x, 200);
        Due.is("the longest value", x.put(), 9 + 40 + 209);
        Make.key(x, 2, 32);
        Due.is("the largest", x.put(), 9 + 40 + 209 + 240);
        Due.is("four keys", x.told(2), 4);
        Due.is("behind reopen", x.reopen(), 498);
        Due.is("four keys behind reopen", x.told(2), 4);
        Make.value(x, 199);
        Due.is("a shorter value in its place", x.put(), 497);
        Make.value(x, 200);
        Due.is("a longer one", x.put(), 498);
        Due.is("the largest goes", x.remove(), 258);
        x.key(1, 1, true);
        Due.is("the smallest goes", x.remove(), 249);
        Due.is("two keys", x.told(2), 2);
    }

    private static void largestMap() {
        for (int size = 15998; size <= 16000; size++) {
            Face x = Both.fresh();
            Make.size(x, size);
            Due.is("it is told", x.told(1), size);
            Due.is("77 keys", x.told(2), 77);
            long map = x.digest(-1);
            x.compact();
            Due.is("it lasts", x.reopen(), size);
            Due.is("all of it", x.digest(-1), map);
        }
        Refused.call("16001", Refused.STATE, x -> {
            Make.size(x, 15960);
            x.key(0xEE, 2, true);
            Make.value(x, 31);
        }, Face::put);
    }

    private static void longestBatch() {
        for (int puts : new int[] {0, 1, 32, 63, 64}) {
            Face x = Both.fresh();
            x.begin();
            x.key(1, 1, true);
            for (int i = 1; i <= 64; i++) {
                Due.is("step " + i, i <= puts ? x.put() : x.remove(), i);
            }
            Due.thrown("put 65", Refused.STATE, x::put);
            Due.thrown("remove 65", Refused.STATE, x::remove);
            Due.is("64 are told", x.told(3), 64);
            Due.is("and done", x.commit(), puts == 64 ? 9 : 0);
        }
    }

    private static void batchIsNotDoneYet() {
        Face x = Both.fresh();
        Make.keys(x, 1);
        long map = x.digest(-1);
        x.begin();
        x.remove();
        x.value(9, 1, true);
        for (int i = 2; i <= 64; i++) {
            x.key(i, 2, true);
            x.put();
        }
        Due.is("the map", x.digest(-1), map);
        Due.is("SIZE", x.told(1), 13);
        Due.is("keys", x.told(2), 1);
        Due.is("commits", x.told(5), 1);
        Due.is("a put is not there", x.get(-1), -1);
        Due.is("nor found before", x.before(-1), 2);
        Due.is("but the one that it removes", x.bytes(false, 0), 1L << 48);
        Due.is("nor found behind", x.seek(-1, true), -1);
        Due.is("nor in a snapshot", x.digest(x.snapshot()), map);
        x.flush();
        x.compact();
        Due.is("nor by files", x.digest(-1), map);
        Due.is("64 steps", x.told(3), 64);
        Due.is("done", x.commit(), 63 * 11);
        Due.is("not in the snapshot", x.digest(0), map);
    }

    private static void eightViews() {
        Face x = Both.fresh();
        long[] maps = new long[8];
        for (int s = 0; s < 8; s++) {
            maps[s] = x.digest(-1);
            Due.is("number", x.snapshot(), s);
            x.key(s % 3, 1, true);
            x.value(s, 1, true);
            if (s % 4 == 3) {
                x.remove();
            } else {
                x.put();
            }
        }
        for (int round = 0; round < 4; round++) {
            for (int s = 0; s < 8; s++) {
                Due.is("snapshot " + s, x.digest(s), maps[s]);
            }
            x.put();
            if (round == 0) {
                x.flush();
            } else {
                x.compact();
            }
        }
    }

    private static void mapItself() {
        Face x = Both.fresh();
        Make.snapshots(x, 8);
        Make.keys(x, 1);
        Due.is("get", x.get(-1), 3);
        Due.is("seek", x.seek(-1, false), 2);
        Due.is("before", x.before(-1), -1);
        Due.is("a snapshot has nothing", x.digest(7), 7);
        Due.is("the map has", x.digest(-1) == 7 ? 1 : 0, 0);
        Refused.call("it is no snapshot", Refused.NO_SUCH, y -> Make.snapshots(y, 8), y -> y.release(-1));
    }

    private static void whatIsACommit() {
        Face x = Both.fresh();
        x.key(1, 1, true);
        x.put();
        Due.is("a put", x.told(5), 1);
        x.put();
        Due.is("the same again", x.told(5), 2);
        x.remove();
        Due.is("a remove", x.told(5), 3);
        x.remove();
        Due.is("a remove of nothing", x.told(5), 4);
        x.begin();
        x.put();
        x.remove();
        Due.is("not in a batch", x.told(5), 4);
        x.commit();
        Due.is("but its end", x.told(5), 5);
        x.begin();
        x.commit();
        Due.is("also of an empty one", x.told(5), 6);
        x.begin();
        x.put();
        x.cancel();
        Due.is("no cancel", x.told(5), 6);
        x.key(0, 0, true);
        Due.thrown("an empty key", Refused.ARGUMENT, x::put);
        Due.thrown("no batch", Refused.STATE, x::commit);
        Due.is("nothing refused", x.told(5), 6);
        x.flush();
        x.compact();
        x.release(x.snapshot());
        x.reopen();
        Due.is("nothing else", x.told(5), 6);
    }

    /** A batch of puts of new keys and removes of old ones, cut by power as it is told. */
    private static void cutBatch(int steps, int when, int k, int b) {
        Face x = Both.fresh();
        Make.keys(x, 100, 101, 102);
        long map = x.digest(-1);
        x.begin();
        for (int i = 0; i < steps; i++) {
            x.key(100 + i, 2, true);
            if (i % 2 == 0) {
                x.remove();
            } else {
                x.put();
            }
        }
        x.snapshot();
        x.power(when, k, b);
        Due.thrown("it fails", Refused.POWER, x::commit);
        Due.is("commits", x.told(5), 3 + when);
        x.reopen();
        Due.is("nothing is done", x.digest(-1) == map ? 1 : 0, when == 0 || steps == 0 ? 1 : 0);
        Due.is("commits", x.told(5), 3 + when);
        int left = 3 - Math.min(2, (steps + 1) / 2) + Math.max(0, steps / 2 - 1);
        Due.is("keys", x.told(2), when == 0 ? 3 : left);
    }

    private static void wholeOrNotAtAll() {
        for (int steps : new int[] {0, 1, 2, 63, 64}) {
            for (int b : new int[] {0, 1, 2, 3, 4, 299, 300}) {
                cutBatch(steps, 0, b, b);
                cutBatch(steps, 1, b, b);
            }
        }
    }

    private static void justBehindTheWrite() {
        for (int steps = 0; steps <= 64; steps++) {
            cutBatch(steps, 0, 400, 300);
            cutBatch(steps, 1, 0, 0);
        }
    }

    private static void offTillReopen() {
        Face x = Both.fresh();
        Due.is("a new object is on", x.told(0), 1);
        Make.off(x);
        Due.is("it is OFF", x.told(0), 0);
        x.key(1, 1, true);
        x.value(1, 1, true);
        x.power(3, 0, 0);
        Due.thrown("put", Refused.STATE, x::put);
        Due.thrown("flush", Refused.STATE, x::flush);
        Due.is("it is still OFF", x.told(0), 0);
        x.power(2, 0, 0);
        Due.thrown("reopen in which power fails", Refused.POWER, x::reopen);
        Due.is("it is still OFF", x.told(0), 0);
        Due.is("reopen", x.reopen(), 0);
        Due.is("it is on", x.told(0), 1);
        Due.is("put", x.put(), 10);
    }

    private static void whatIsLeft() {
        for (int when = 0; when <= 2; when++) {
            Face x = Both.fresh();
            Make.keys(x, 1, 2, 3);
            Make.snapshots(x, 8);
            Make.key(x, 5, 32);
            Make.value(x, 200);
            x.begin();
            x.put();
            x.power(when, 0, 0);
            Due.thrown("it fails", Refused.POWER, when == 2 ? x::flush : x::commit);
            for (int on = 0; on <= 1; on++) {
                Due.is("on", x.told(0), on);
                Due.is("no batch", x.told(3), -1);
                Due.is("no snapshots", x.told(4), 0);
                Due.is("commits", x.told(5), when == 1 ? 4 : 3);
                Due.is("the key", x.told(6), 32);
                Due.is("its last bytes", x.bytes(false, 24), 5);
                Due.is("the value", x.told(7), 200);
                Due.is("its last bytes", x.bytes(true, 192), 0x0102030405060708L * 8);
                Due.is("SIZE", x.told(1), on == 0 ? 0 : when == 1 ? 279 : 39);
                Due.is("keys", x.told(2), on == 0 ? 0 : when == 1 ? 4 : 3);
                if (on == 0) {
                    x.reopen();
                }
            }
            Due.is("the put", x.get(-1), when == 1 ? 200 : -1);
            Due.thrown("no snapshot", Refused.NO_SUCH, () -> x.digest(0));
            Due.thrown("no batch", Refused.STATE, x::cancel);
        }
    }

    private static void callsAsItIsOff() {
        int[] say = {Step.BEGIN, Step.PUT, Step.REMOVE, Step.COMMIT, Step.CANCEL, Step.SNAPSHOT,
            Step.RELEASE, Step.GET, Step.SEEK, Step.BEFORE, Step.FLUSH, Step.COMPACT, Step.DIGEST,
            Step.CHECK};
        for (int kind : say) {
            for (int a : new int[] {-1, 0, 7, 8}) {
                Refused.Calls off = x -> {
                    Make.keys(x, 1, 2);
                    Make.batch(x, 3);
                    Make.snapshots(x, 8);
                    x.power(1, 0, 0);
                    Due.thrown("commit", Refused.POWER, x::commit);
                };
                Refused.Calls act = x -> new Step(kind, 0, a, 0, true).call(x);
                Refused.call("call " + kind, Refused.STATE, off, act);
                Refused.call("call " + kind + ", empty key", Refused.STATE, x -> {
                    off.on(x);
                    x.key(0, 0, true);
                    x.power(2, 0, 0);
                }, act);
            }
        }
        Face x = Both.fresh();
        Make.off(x);
        Due.is("key", x.key(1, 1, true), 1);
        Due.is("value", x.value(1, 1, true), 1);
        Due.is("bytes", x.bytes(true, 0), 1L << 56);
        Due.is("told", x.told(6), 1);
        x.power(3, 0, 0);
        Due.is("reopen", x.reopen(), 0);
    }
}
