/** The boundaries of promises 4 to 8: THE BATCH, and what is put and removed with it or without. */
public final class BatchBoundsTest {
    private static final int MOST_SIZE = 16000;
    private static final int[] COUNTS = {0, 1, 2, 63, 64};

    private BatchBoundsTest() {
    }

    public static void main(String[] args) {
        begin();
        put();
        remove();
        commit();
        cancel();
        Due.finish("BatchBoundsTest");
    }

    private static void begin() {
        Due.sentence("Promise 4", "THE BATCH opens", BatchBoundsTest::batchOpens);
        Due.sentence("Promise 4", "IllegalStateException if it is open", BatchBoundsTest::openBatchIsRefused);
    }

    private static void put() {
        Due.sentence("Promise 5", "THE VALUE is put for THE KEY", BatchBoundsTest::valueIsPutForKey);
        Due.sentence("Promise 5", "SIZE then (of THE MAP as it is; of a BATCH how many puts and removes)",
            BatchBoundsTest::putTellsSizeOrSteps);
        Due.sentence("Promise 5", "(into THE BATCH, if it is open)", BatchBoundsTest::sizeIsNotLookedAtInBatch);
        Due.sentence("Promise 5", "IllegalArgumentException if THE KEY is empty", () -> emptyKeyIsRefused(Step.PUT));
        Due.sentence("Promise 5", "IllegalStateException if THE BATCH is full", () -> fullBatchIsRefused(Step.PUT));
        Due.sentence("Promise 5", "or SIZE would be more than 16000", BatchBoundsTest::largerMapIsRefused);
        Due.sentence("Promise 5", "ArithmeticException if power failed", () -> failingPower(Step.PUT, 13, 23));
    }

    private static void remove() {
        String likewise = "Likewise THE KEY is removed";
        Due.sentence("Promise 6", likewise, BatchBoundsTest::removeTakesJustTheKey);
        Due.sentence("Promise 6", likewise, () -> emptyKeyIsRefused(Step.REMOVE));
        Due.sentence("Promise 6", likewise, () -> fullBatchIsRefused(Step.REMOVE));
        Due.sentence("Promise 6", likewise, () -> failingPower(Step.REMOVE, 13, 13));
        Due.sentence("Promise 6", "(nothing, if it is not there)", BatchBoundsTest::removeOfNothing);
    }

    private static void commit() {
        Due.sentence("Promise 7", "THE BATCH is done, one after the other, and closed: SIZE",
            BatchBoundsTest::stepsAreDoneInOrder);
        Due.sentence("Promise 7", "IllegalStateException if none is open", () -> noBatchIsRefused(Face::commit));
        Due.sentence("Promise 7", "or SIZE would be more than 16000 then (THE BATCH is closed, nothing is done)",
            BatchBoundsTest::tooLargeBatchIsClosed);
        Due.sentence("Promise 7", "SIZE would be more than 16000 then", BatchBoundsTest::onlyTheEndIsLookedAt);
        Due.sentence("Promise 7", "ArithmeticException if power failed", BatchBoundsTest::failingCommit);
    }

    private static void cancel() {
        Due.sentence("Promise 8", "THE BATCH is closed, nothing of it is done: how many puts and removes it had",
            BatchBoundsTest::cancelTellsSteps);
        Due.sentence("Promise 8", "IllegalStateException if none is open", () -> noBatchIsRefused(Face::cancel));
    }

    private static int change(Face x, int kind) {
        return kind == Step.PUT ? x.put() : x.remove();
    }

    private static void batchOpens() {
        Face x = Both.fresh();
        Due.is("none of a new object", x.told(3), -1);
        x.begin();
        Due.is("an empty one", x.told(3), 0);
        x.commit();
        x.begin();
        Due.is("again behind commit", x.told(3), 0);
        x.key(1, 1, true);
        x.put();
        x.cancel();
        x.begin();
        Due.is("again, and empty, behind cancel", x.told(3), 0);
        x.reopen();
        x.begin();
        Due.is("again behind reopen", x.told(3), 0);
        x.power(0, 0, 0);
        Due.thrown("power fails in it", Refused.POWER, x::commit);
        x.reopen();
        x.begin();
        Due.is("again behind a failure", x.told(3), 0);
        Due.is("and it is empty", x.commit(), 0);
    }

    private static void openBatchIsRefused() {
        for (int steps : COUNTS) {
            Refused.call("begin with " + steps, Refused.STATE, x -> {
                Make.keys(x, 1, 100);
                Make.batch(x, steps);
            }, Face::begin);
        }
    }

    /** The value as it was when it was put, whatever THE VALUE and THE KEY become then. */
    private static void valueIsPutForKey() {
        for (int open = 0; open <= 1; open++) {
            Face x = Both.fresh();
            if (open == 1) {
                x.begin();
            }
            x.key(0x4B31, 2, true);
            x.value(0x5631, 2, true);
            x.put();
            x.value(0x32, 1, false);
            x.key(0x32, 1, false);
            x.put();
            x.value(0, 0, true);
            if (open == 1) {
                x.commit();
            }
            Due.is("the second key's", x.get(-1), 3);
            Due.is("its bytes", x.bytes(true, 0), 0x563132L << 40);
            x.key(0x4B31, 2, true);
            Due.is("the first key's", x.get(-1), 2);
            Due.is("its bytes", x.bytes(true, 0), 0x5631L << 48);
            x.value(0x99, 1, true);
            Due.is("another is put", x.put(), 8 + 2 + 1 + 8 + 3 + 3);
            x.value(0, 0, true);
            Due.is("and is there alone", x.get(-1), 1);
            Due.is("its byte", x.bytes(true, 0), 0x99L << 56);
        }
    }

    private static void putTellsSizeOrSteps() {
        Face x = Both.fresh();
        Make.key(x, 7, 1);
        Due.is("the smallest", x.put(), 9);
        Make.key(x, 7, 32);
        Make.value(x, 200);
        Due.is("and the largest", x.put(), 249);
        x.begin();
        for (int i = 1; i <= 64; i++) {
            x.key(i, 1, true);
            Due.is("step " + i, i % 3 == 0 ? x.remove() : x.put(), i);
            Due.is("told of step " + i, x.told(3), i);
        }
        Due.is("THE MAP is as it was", x.told(1), 249);
    }

    private static void emptyKeyIsRefused(int kind) {
        String what = "an empty key, " + kind;
        Refused.Calls act = x -> change(x, kind);
        Refused.call(what, Refused.ARGUMENT, x -> { }, act);
        Refused.call(what + ", with a value", Refused.ARGUMENT, x -> Make.value(x, 200), act);
        for (int steps : COUNTS) {
            Refused.call(what + ", batch of " + steps, Refused.ARGUMENT, x -> {
                Make.keys(x, 1, 2, 3);
                Make.batch(x, steps);
                x.key(0, 0, true);
            }, act);
        }
        Refused.call(what + ", at 16000", Refused.ARGUMENT, x -> {
            Make.size(x, MOST_SIZE);
            x.key(-1, 0, true);
        }, act);
        for (int when = 0; when <= 3; when++) {
            int then = when;
            Refused.call(what + ", power told " + when, Refused.ARGUMENT, x -> {
                Make.keys(x, 1, 2);
                x.key(0, 0, true);
                x.power(then, 0, 0);
            }, act);
        }
        Face x = Both.fresh();
        x.key(0, 1, true);
        Due.is("a key of one byte 0", change(x, kind), kind == Step.PUT ? 9 : 0);
    }

    private static void fullBatchIsRefused(int kind) {
        Face x = Both.fresh();
        Make.batch(x, 62);
        Due.is("step 63", change(x, kind), 63);
        Due.is("step 64", change(x, kind), 64);
        Due.thrown("step 65", Refused.STATE, () -> change(x, kind));
        Due.is("64 it stays", x.cancel(), 64);
        Due.is("without a batch it is done", change(x, kind), kind == Step.PUT ? 10 : 0);
        Refused.call("step 65", Refused.STATE, y -> {
            Make.keys(y, 1, 100, 131);
            Make.batch(y, 64);
        }, y -> change(y, kind));
        for (int when = 0; when <= 3; when++) {
            int then = when;
            Refused.call("step 65, power told " + when, Refused.STATE, y -> {
                Make.keys(y, 1, 100, 131);
                Make.batch(y, 64);
                y.power(then, 0, 0);
            }, y -> change(y, kind));
        }
    }

    /** The key that is put, and its value, so that SIZE is the one that is named. */
    private static void putTo(int size, int inKey, int inValue, int want) {
        Refused.Calls before = x -> {
            Make.size(x, size);
            Make.key(x, 0xEE, inKey);
            Make.value(x, inValue);
        };
        putDue(before, want);
    }

    private static void putAgain(int size, int inValue, int want) {
        Refused.Calls before = x -> {
            Make.size(x, size);
            x.key(1, 2, true);
            Make.value(x, inValue);
        };
        putDue(before, want);
    }

    private static void putDue(Refused.Calls before, int want) {
        if (want <= MOST_SIZE) {
            Face x = Both.fresh();
            before.on(x);
            Due.is("SIZE", x.put(), want);
            Due.is("SIZE is told", x.told(1), want);
            Due.is("it lasts", x.reopen(), want);
        } else {
            Refused.call("SIZE " + want, Refused.STATE, before, Face::put);
            for (int when : new int[] {0, 1, 2}) {
                Refused.call("SIZE " + want + ", power told " + when, Refused.STATE, x -> {
                    before.on(x);
                    x.power(when, 0, 0);
                }, Face::put);
            }
        }
    }

    private static void largerMapIsRefused() {
        for (int size = 15990; size <= 15993; size++) {
            putTo(size, 1, 0, size + 9);
        }
        for (int size = 15759; size <= 15762; size++) {
            putTo(size, 32, 200, size + 240);
        }
        putTo(MOST_SIZE, 1, 0, MOST_SIZE + 9);
        putTo(MOST_SIZE, 32, 200, MOST_SIZE + 240);
        putAgain(MOST_SIZE, 200, MOST_SIZE);
        putAgain(MOST_SIZE, 199, MOST_SIZE - 1);
        putAgain(MOST_SIZE, 0, MOST_SIZE - 200);
        Refused.Calls shorter = x -> {
            Make.size(x, MOST_SIZE - 1);
            x.key(76, 2, true);
            x.get(-1);
            x.value(1, 1, false);
        };
        putDue(shorter, MOST_SIZE);
        putDue(x -> {
            shorter.on(x);
            x.value(2, 1, false);
        }, MOST_SIZE + 1);
    }

    private static void sizeIsNotLookedAtInBatch() {
        Face x = Both.fresh();
        Make.size(x, MOST_SIZE);
        x.begin();
        Make.key(x, 0xEE, 32);
        Make.value(x, 200);
        for (int i = 1; i <= 64; i++) {
            Due.is("into the batch", x.put(), i);
        }
        Due.is("SIZE is as it was", x.told(1), MOST_SIZE);
        Due.is("and it is cancelled", x.cancel(), 64);
        Due.is("SIZE is as it was", x.told(1), MOST_SIZE);
    }

    /** A map of 13 and a key that is not there: SIZE without the commit in which power fails, and with it. */
    private static void failingPower(int kind, int without, int with) {
        for (int when = 0; when <= 1; when++) {
            Face x = Both.fresh();
            Make.keys(x, 1);
            x.key(2, 2, true);
            x.value(0, 0, true);
            x.begin();
            x.power(when, 0, 0);
            Due.is("a step of a batch is no commit", change(x, kind), 1);
            Due.is("power is on", x.told(0), 1);
            x.cancel();
            Due.thrown("power fails", Refused.POWER, () -> change(x, kind));
            Due.is("it is OFF", x.told(0), 0);
            Due.is("commits", x.told(5), 1 + when);
            Due.is("SIZE behind reopen", x.reopen(), when == 0 ? without : with);
            Due.is("power fails once", change(x, kind), with);
        }
    }

    private static void removeTakesJustTheKey() {
        Face x = Both.fresh();
        for (int length : new int[] {1, 2, 3, 31, 32}) {
            Make.key(x, 0, length);
            x.put();
        }
        Due.is("five keys", x.told(2), 5);
        Make.key(x, 0, 2);
        Due.is("the second", x.remove(), 8 * 4 + 1 + 3 + 31 + 32);
        Make.key(x, 0, 30);
        Due.is("one between them", x.remove(), 8 * 4 + 1 + 3 + 31 + 32);
        Make.key(x, 0, 32);
        Due.is("the longest", x.remove(), 8 * 3 + 1 + 3 + 31);
        Make.key(x, 0, 1);
        Due.is("the shortest", x.remove(), 8 * 2 + 3 + 31);
        Face y = Both.fresh();
        Make.size(y, MOST_SIZE);
        Due.is("the last one of a full map", y.remove(), 15960);
        y.key(0, 2, true);
        Due.is("the first one", y.remove(), 15750);
    }

    private static void removeOfNothing() {
        Face x = Both.fresh();
        x.key(1, 2, true);
        Due.is("of an empty map", x.remove(), 0);
        Due.is("is a commit", x.told(5), 1);
        x.put();
        Due.is("the only one", x.remove(), 0);
        Due.is("again", x.remove(), 0);
        Due.is("each is a commit", x.told(5), 4);
        Due.is("no key is there", x.told(2), 0);
        x.begin();
        Due.is("into a batch", x.remove(), 1);
        Due.is("and done", x.commit(), 0);
        Make.size(x, MOST_SIZE);
        x.key(0xEEEE, 2, true);
        Due.is("of a full map", x.remove(), MOST_SIZE);
        Due.is("and it lasts", x.reopen(), MOST_SIZE);
    }

    private static void stepsAreDoneInOrder() {
        Face x = Both.fresh();
        x.begin();
        Due.is("none", x.commit(), 0);
        Due.is("it is closed", x.told(3), -1);
        Due.is("and was a commit", x.told(5), 1);
        x.begin();
        x.key(1, 1, true);
        x.put();
        x.remove();
        Due.is("a put and a remove", x.commit(), 0);
        x.begin();
        x.remove();
        x.put();
        Due.is("a remove and a put", x.commit(), 9);
        x.begin();
        for (int i = 0; i < 64; i++) {
            x.value(i, i % 9, true);
            x.put();
        }
        Due.is("the last of 64 of one key counts", x.commit(), 9);
        Make.value(x, 0);
        x.begin();
        for (int i = 0; i < 64; i++) {
            x.key(i, 1, true);
            x.put();
        }
        Due.is("64 keys", x.commit(), 64 * 9);
        Due.is("one commit each", x.told(5), 5);
        Due.is("64 keys are there", x.told(2), 64);
        x.begin();
        for (int i = 0; i < 64; i++) {
            x.key(i, 1, true);
            x.remove();
        }
        Due.is("64 removes", x.commit(), 0);
    }

    private static void noBatchIsRefused(Refused.Calls call) {
        Refused.Calls[] none = {
            x -> x.key(1, 1, true),
            x -> {
                Make.keys(x, 1, 2);
                x.begin();
                x.commit();
            },
            x -> {
                Make.batch(x, 64);
                x.cancel();
            },
            x -> {
                Make.batch(x, 3);
                x.reopen();
            },
            x -> {
                Make.keys(x, 5);
                x.power(0, 0, 0);
            },
            x -> {
                Make.keys(x, 5);
                x.power(1, 0, 0);
            }};
        for (int i = 0; i < none.length; i++) {
            Refused.call("without a batch, " + i, Refused.STATE, none[i], call);
        }
    }

    /** A full map with a batch that removes one key, and puts others till SIZE is the one that is named. */
    private static Refused.Calls batchTo(int size) {
        return x -> {
            Make.size(x, 15960);
            Make.snapshots(x, 1);
            x.begin();
            x.key(3, 2, true);
            x.remove();
            for (int i = 0; i < 10; i++) {
                x.key(200 + i, 2, true);
                x.value(0, 0, true);
                x.put();
            }
            Make.value(x, size - 15960 + 210 - 100);
            x.put();
        };
    }

    private static void tooLargeBatchIsClosed() {
        for (int size = MOST_SIZE - 1; size <= MOST_SIZE + 2; size++) {
            Refused.Calls before = batchTo(size);
            if (size <= MOST_SIZE) {
                Face x = Both.fresh();
                before.on(x);
                Due.is("SIZE", x.commit(), size);
                Due.is("it is closed", x.told(3), -1);
                Due.is("it lasts", x.reopen(), size);
            } else {
                Refused.call("SIZE " + size, Refused.STATE, before, Face::commit, Face::cancel);
                for (int when : new int[] {0, 1, 2}) {
                    Refused.call("SIZE " + size + ", power told " + when, Refused.STATE, x -> {
                        before.on(x);
                        x.power(when, 0, 0);
                    }, Face::commit, Face::cancel);
                }
            }
        }
    }

    private static void onlyTheEndIsLookedAt() {
        Face x = Both.fresh();
        Make.size(x, MOST_SIZE);
        Make.value(x, 200);
        x.begin();
        for (int i = 0; i < 32; i++) {
            x.key(300 + i, 2, true);
            x.put();
        }
        for (int i = 0; i < 32; i++) {
            x.key(i, 2, true);
            x.remove();
        }
        Due.is("more only on the way", x.commit(), MOST_SIZE);
        x.begin();
        x.key(400, 2, true);
        x.put();
        x.remove();
        Due.is("a put that is removed again", x.commit(), MOST_SIZE);
        x.begin();
        x.key(300, 2, true);
        for (int i = 0; i < 64; i++) {
            x.put();
        }
        Due.is("one key 64 times counts once", x.commit(), MOST_SIZE);
        x.begin();
        Due.is("nothing", x.commit(), MOST_SIZE);
        largestBatch();
    }

    /** Every put of a new key, each key and value as large as can be. */
    private static void largestBatch() {
        Face x = Both.fresh();
        Make.value(x, 200);
        x.begin();
        for (int i = 0; i < 64; i++) {
            Make.key(x, i, 32);
            x.put();
        }
        Due.is("the largest batch", x.commit(), 64 * 240);
        Due.is("lasts", x.reopen(), 64 * 240);
    }

    /** Batches of every number of steps, each a put of another key. */
    private static void failingCommit() {
        for (int steps = 0; steps <= 64; steps++) {
            for (int when = 0; when <= 1; when++) {
                Face x = Both.fresh();
                Make.keys(x, 1000);
                x.begin();
                for (int i = 0; i < steps; i++) {
                    x.key(i, 2, true);
                    x.put();
                }
                x.power(when, 0, steps);
                Due.thrown("power fails", Refused.POWER, x::commit);
                Due.is("it is OFF", x.told(0), 0);
                Due.is("no batch", x.told(3), -1);
                Due.is("commits", x.told(5), 1 + when);
                int done = 13 + when * steps * 13;
                Due.is("SIZE behind reopen", x.reopen(), done);
                Due.thrown("no batch", Refused.STATE, x::commit);
                x.begin();
                Due.is("power fails once", x.commit(), done);
            }
        }
    }

    private static void cancelTellsSteps() {
        for (int steps : COUNTS) {
            Face x = Both.fresh();
            Make.keys(x, 100, 101);
            Make.batch(x, steps);
            Due.is("cancelled", x.cancel(), steps);
            Due.is("it is closed", x.told(3), -1);
            Due.is("SIZE is as it was", x.told(1), 26);
            Due.is("it is no commit", x.told(5), 2);
            Due.thrown("none is open", Refused.STATE, x::cancel);
            Due.is("nothing is done later", x.reopen(), 26);
        }
    }
}
