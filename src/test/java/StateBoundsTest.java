/** The boundaries of promises 1, 19 and 21: a new object, which exception comes first, and what is told. */
public final class StateBoundsTest {
    private StateBoundsTest() {
    }

    public static void main(String[] args) {
        newObjects();
        told();
        check();
        Due.finish("StateBoundsTest");
    }

    private static void newObjects() {
        Due.sentence("Promise 1", "THE MAP is empty, it is on; KEY and VALUE are empty", StateBoundsTest::newObject);
        Due.sentence("Promise 1",
            "Of several exceptions: that it is OFF, then IllegalArgumentException or NoSuchElementException",
            StateBoundsTest::offComesFirst);
        Due.sentence("Promise 1", "then IllegalArgumentException or NoSuchElementException, then the others",
            StateBoundsTest::argumentsComeBeforeTheOthers);
        Due.sentence("Promise 1", "what throws changes nothing but what is told",
            StateBoundsTest::refusalsChangeNothing);
        Due.sentence("Promise 1", "it is OFF if power failed", StateBoundsTest::offIfPowerFailed);
    }

    private static void told() {
        Due.sentence("Promise 19", "What 0: 1 if it is on, else 0", () -> toldThrough(0, 1, 1, 0, 1));
        Due.sentence("Promise 19", "1: SIZE of THE MAP (0 if OFF)", () -> toldThrough(1, 0, 39, 0, 26));
        Due.sentence("Promise 19", "2: how many KEYS it has (0 if OFF)", () -> toldThrough(2, 0, 3, 0, 2));
        Due.sentence("Promise 19", "3: puts and removes of THE BATCH, -1 without one",
            () -> toldThrough(3, -1, 2, -1, -1));
        Due.sentence("Promise 19", "4: bits of SNAPSHOTS", () -> toldThrough(4, 0, 0xFD, 0, 0));
        Due.sentence("Promise 19", "5: COMMITS that are lasting", () -> toldThrough(5, 0, 3, 4, 4));
        Due.sentence("Promise 19", "6, 7: bytes of THE KEY, THE VALUE", () -> {
            toldThrough(6, 0, 2, 2, 2);
            toldThrough(7, 0, 5, 5, 5);
            toldRows();
        });
        Due.sentence("Promise 19", "IllegalArgumentException for others", StateBoundsTest::nothingElseIsTold);
    }

    private static void check() {
        Due.sentence("Promise 21", "How much is wrong in files", StateBoundsTest::nothingIsWrong);
        Due.sentence("Promise 21", "always 0. IllegalStateException", StateBoundsTest::checkAsItIsOff);
    }

    private static void newObject() {
        Face x = Both.fresh();
        int[] want = {1, 0, 0, -1, 0, 0, 0, 0};
        for (int what = 0; what < 8; what++) {
            Due.is("told(" + what + ")", x.told(what), want[what]);
        }
        Due.is("digest", x.digest(-1), 7);
        Due.is("get", x.get(-1), -1);
        Due.is("seek", x.seek(-1, false), -1);
        Due.is("seek behind", x.seek(-1, true), -1);
        Due.is("before", x.before(-1), -1);
        Due.is("check", x.check(), 0);
        for (int at = 0; at <= 200; at += 8) {
            Due.is("bytes of the key", x.bytes(false, at), 0);
            Due.is("bytes of the value", x.bytes(true, at), 0);
        }
        for (int s = 0; s < 8; s++) {
            int none = s;
            Due.thrown("no snapshot " + s, Refused.NO_SUCH, () -> x.get(none));
        }
        Due.thrown("no batch", Refused.STATE, x::cancel);
        x.flush();
        x.compact();
        Due.is("reopen", x.reopen(), 0);
        Due.is("another object has nothing of this", Both.fresh().told(6), 0);
    }

    private static void offComesFirst() {
        Refused.Calls empty = x -> {
            Make.off(x);
            x.key(0, 0, true);
        };
        Refused.call("put of an empty key", Refused.STATE, empty, Face::put);
        Refused.call("remove of an empty key", Refused.STATE, empty, Face::remove);
        for (int s : new int[] {-2, 0, 8, Integer.MAX_VALUE}) {
            Refused.call("release", Refused.STATE, empty, x -> x.release(s));
            Refused.call("get", Refused.STATE, empty, x -> x.get(s));
            Refused.call("seek", Refused.STATE, empty, x -> x.seek(s, true));
            Refused.call("before", Refused.STATE, empty, x -> x.before(s));
            Refused.call("digest", Refused.STATE, empty, x -> x.digest(s));
        }
        Refused.call("flush in which power would fail", Refused.STATE, x -> {
            Make.off(x);
            x.power(2, 0, 0);
        }, Face::flush);
        Refused.call("put in which power would fail", Refused.STATE, x -> {
            Make.off(x);
            x.power(0, 0, 0);
        }, Face::put);
    }

    private static void argumentsComeBeforeTheOthers() {
        Refused.Calls fullBatch = x -> {
            Make.batch(x, 64);
            x.key(0, 0, true);
        };
        Refused.call("an empty key, a full batch", Refused.ARGUMENT, fullBatch, Face::put);
        Refused.call("an empty key, a full batch", Refused.ARGUMENT, fullBatch, Face::remove);
        Refused.call("an empty key, a full map", Refused.ARGUMENT, x -> {
            Make.size(x, 16000);
            Make.value(x, 200);
            x.key(0, 0, true);
        }, Face::put);
        for (int when = 0; when <= 1; when++) {
            int then = when;
            Refused.Calls failing = x -> {
                Make.keys(x, 1, 2);
                x.key(0, 0, true);
                x.power(then, 0, 0);
            };
            Refused.call("an empty key, power that fails", Refused.ARGUMENT, failing, Face::put);
            Refused.call("an empty key, power that fails", Refused.ARGUMENT, failing, Face::remove);
        }
    }

    /** Many refused calls in a row: nothing but the last word of the document's own is seen of them. */
    private static void refusalsChangeNothing() {
        Refused.Calls before = x -> {
            Make.keys(x, 1, 2, 3);
            Make.snapshots(x, 8);
            Make.batch(x, 64);
            x.power(0, 0, 0);
        };
        Refused.call("many", Refused.STATE, before, x -> {
            for (int i = 0; i < 10; i++) {
                Due.thrown("key", Refused.ARGUMENT, () -> x.key(1, 9, true));
                Due.thrown("value", Refused.ARGUMENT, () -> x.value(1, -1, true));
                Due.thrown("begin", Refused.STATE, x::begin);
                Due.thrown("put", Refused.STATE, x::put);
                Due.thrown("remove", Refused.STATE, x::remove);
                Due.thrown("release", Refused.NO_SUCH, () -> x.release(8));
                Due.thrown("get", Refused.NO_SUCH, () -> x.get(8));
                Due.thrown("seek", Refused.NO_SUCH, () -> x.seek(-2, true));
                Due.thrown("before", Refused.NO_SUCH, () -> x.before(-2));
                Due.thrown("digest", Refused.NO_SUCH, () -> x.digest(9));
                Due.thrown("bytes", Refused.ARGUMENT, () -> x.bytes(true, 201));
                Due.thrown("power", Refused.ARGUMENT, () -> x.power(3, 401, 0));
                Due.thrown("told", Refused.ARGUMENT, () -> x.told(8));
            }
            x.snapshot();
        });
    }

    private static void offIfPowerFailed() {
        int[] calls = {Step.PUT, Step.REMOVE, Step.COMMIT, Step.FLUSH, Step.COMPACT, Step.REOPEN};
        for (int call : calls) {
            boolean commits = call == Step.PUT || call == Step.REMOVE || call == Step.COMMIT;
            for (int when = commits ? 0 : 2; when <= (commits ? 1 : 2); when++) {
                Face x = Both.fresh();
                Make.keys(x, 1, 2);
                if (call == Step.COMMIT) {
                    x.begin();
                }
                x.power(when, 0, 0);
                Due.is("it is on", x.told(0), 1);
                Due.thrown("call " + call, Refused.POWER, () -> new Step(call, 0, 0, 0, false).call(x));
                Due.is("it is OFF", x.told(0), 0);
                Due.thrown("it is OFF", Refused.STATE, x::check);
            }
        }
    }

    /** Of a new object, of one with all that there is to tell, of the same as it is OFF, and behind reopen. */
    private static void toldThrough(int what, int fresh, int full, int off, int again) {
        Face x = Both.fresh();
        Due.is("of a new object", x.told(what), fresh);
        Make.keys(x, 1, 2, 3);
        Make.snapshots(x, 8);
        x.release(1);
        x.value(5, 5, true);
        x.begin();
        x.remove();
        x.remove();
        Due.is("of a full one", x.told(what), full);
        x.power(1, 0, 0);
        Due.thrown("commit", Refused.POWER, x::commit);
        Due.is("as it is OFF", x.told(what), off);
        x.reopen();
        Due.is("behind reopen", x.told(what), again);
    }

    private static void toldRows() {
        for (int bytes = 0; bytes <= 200; bytes++) {
            Face x = Both.fresh();
            Make.key(x, 1, Math.min(32, bytes));
            Make.value(x, bytes);
            Due.is("bytes of the key", x.told(6), Math.min(32, bytes));
            Due.is("bytes of the value", x.told(7), bytes);
        }
    }

    private static void nothingElseIsTold() {
        Face x = Both.fresh();
        Due.is("0 is told", x.told(0), 1);
        Due.is("7 is told", x.told(7), 0);
        for (int what : new int[] {-1, 8, 9, -8, 32, 256, Integer.MIN_VALUE, Integer.MAX_VALUE}) {
            Refused.call("told(" + what + ")", Refused.ARGUMENT, y -> Make.batch(y, 3), y -> y.told(what));
            Refused.call("told(" + what + "), OFF", Refused.ARGUMENT, Make::off, y -> y.told(what));
        }
    }

    private static void checkAsItIsOff() {
        Refused.call("check, OFF", Refused.STATE, Make::off, Face::check);
        Refused.call("check, OFF by reopen", Refused.STATE, x -> {
            Make.keys(x, 1);
            x.power(2, 3, 3);
            Due.thrown("reopen", Refused.POWER, x::reopen);
        }, Face::check);
    }

    /** Full maps, their last key away, and nothing at all: by the log, by files, and behind a failure. */
    private static void nothingIsWrong() {
        for (int size : new int[] {10, 512, 2048, 16000}) {
            Face x = Both.fresh();
            Due.is("of nothing", x.check(), 0);
            Make.size(x, size);
            Due.is("of the log", x.check(), 0);
            Make.snapshots(x, 8);
            x.flush();
            Due.is("of a file", x.check(), 0);
            x.remove();
            x.flush();
            Due.is("of a remove in a file", x.check(), 0);
            x.compact();
            Due.is("of files put together", x.check(), 0);
            x.power(2, 1, 1);
            Due.thrown("compact", Refused.POWER, x::compact);
            x.reopen();
            Due.is("behind a failure", x.check(), 0);
            x.key(0, 0, true);
            for (int i = 0; i < 77 && x.seek(-1, false) > 0; i++) {
                x.remove();
            }
            x.compact();
            Due.is("of nothing again", x.check(), 0);
            Due.is("which it is", x.told(1), 0);
        }
    }
}
