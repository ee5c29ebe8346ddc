/** The boundaries of promises 15 to 18: flush, compact, the power that fails, and reopen. */
public final class PowerBoundsTest {
    private static final int NEVER = 3;
    private static final int[] OUTSIDE = {-1, -400, Integer.MIN_VALUE, Integer.MAX_VALUE};

    private PowerBoundsTest() {
    }

    public static void main(String[] args) {
        flushAndCompact();
        whatPowerTakes();
        whenPowerFails();
        reopen();
        Due.finish("PowerBoundsTest");
    }

    private static void flushAndCompact() {
        Due.sentence("Promise 15", "What was put is written into a file now", () -> mapIsTheSame(Step.FLUSH));
        Due.sentence("Promise 15", "IllegalStateException; ArithmeticException if power failed (THE MAP is the same)",
            () -> failingUpkeep(Step.FLUSH));
        Due.sentence("Promise 16", "Files are put together, as far as it may be", () -> mapIsTheSame(Step.COMPACT));
        Due.sentence("Promise 16", "Thrown as by flush", () -> failingUpkeep(Step.COMPACT));
    }

    private static void whatPowerTakes() {
        Due.sentence("Promise 17", "IllegalArgumentException if when is not 0 to 3", PowerBoundsTest::whenIsRefused);
        Due.sentence("Promise 17", "k not 0 to 400", PowerBoundsTest::kIsRefused);
        Due.sentence("Promise 17", "b not 0 to 300", PowerBoundsTest::bIsRefused);
    }

    private static void whenPowerFails() {
        Due.sentence("Promise 17", "Power fails once from now on", PowerBoundsTest::failsOnce);
        Due.sentence("Promise 17", "(what was said before is forgotten)", PowerBoundsTest::lastWordCounts);
        Due.sentence("Promise 17",
            "when 0: in the next COMMIT, as the write that would make it lasting is cut after b bytes",
            PowerBoundsTest::failsInEachCommit);
        Due.sentence("Promise 17", "(before its last one, if it has not more)", PowerBoundsTest::cutBeforeTheLastByte);
        Due.sentence("Promise 17", "1: in the next COMMIT, behind that write", PowerBoundsTest::onlyCommitsFail);
        Due.sentence("Promise 17", "as write k (the first is 0) from there on is cut after b bytes",
            PowerBoundsTest::behindTheWrite);
        Due.sentence("Promise 17", "or, if there are not so many, at its end", PowerBoundsTest::notSoManyWrites);
        Due.sentence("Promise 17", "2: in the next flush, compact or reopen, as write k is cut after b bytes",
            PowerBoundsTest::onlyUpkeepFails);
        Due.sentence("Promise 17", "3: not at all", PowerBoundsTest::notAtAll);
    }

    private static void reopen() {
        Due.sentence("Promise 18", "Power goes off, if it is on, and on", PowerBoundsTest::reopenIfOnOrOff);
        Due.sentence("Promise 18", "what was said by power is forgotten then: SIZE", PowerBoundsTest::reopenForgets);
        Due.sentence("Promise 18", "ArithmeticException if power fails in that (it is OFF then)",
            PowerBoundsTest::failingReopen);
    }

    private static void upkeep(Face x, int call) {
        if (call == Step.FLUSH) {
            x.flush();
        } else if (call == Step.COMPACT) {
            x.compact();
        } else {
            x.reopen();
        }
    }

    private static void commit(Face x, int call) {
        if (call == Step.COMMIT) {
            x.begin();
            x.commit();
        } else if (call == Step.PUT) {
            x.put();
        } else {
            x.remove();
        }
    }

    private static void mapIsTheSame(int call) {
        for (int keys : new int[] {0, 1, 2, 100}) {
            Face x = Both.fresh();
            x.value(-1, 8, true);
            for (int i = 0; i < keys; i++) {
                x.key(i * 37 % 101, 2, true);
                x.put();
            }
            long map = x.digest(-1);
            Make.snapshots(x, 8);
            x.begin();
            x.key(0x0505, 2, true);
            x.put();
            for (int i = 0; i < 3; i++) {
                upkeep(x, call);
                Due.is("the map", x.digest(-1), map);
                Due.is("its snapshots", x.digest(7), map);
                Due.is("no commit", x.told(5), keys);
                Due.is("the batch stays", x.told(3), 1);
                Due.is("nothing is wrong", x.check(), 0);
            }
            Due.is("the batch is done later", x.commit(), (keys + 1) * 18);
            upkeep(x, call);
            Due.is("the snapshot is as it was", x.digest(7), map);
        }
    }

    private static void failingUpkeep(int call) {
        Refused.call("it is OFF", Refused.STATE, Make::off, x -> upkeep(x, call));
        for (int keys : new int[] {0, 1, 60}) {
            for (int k : new int[] {0, 1, 399, 400}) {
                for (int b : new int[] {0, 1, 299, 300}) {
                    Face x = Both.fresh();
                    Make.size(x, 10 + 210 * keys);
                    long map = x.digest(-1);
                    Make.batch(x, 2);
                    Make.snapshots(x, 2);
                    x.power(2, k, b);
                    Due.thrown("power fails", Refused.POWER, () -> upkeep(x, call));
                    Due.is("it is OFF", x.told(0), 0);
                    Due.is("no batch", x.told(3), -1);
                    Due.is("no snapshots", x.told(4), 0);
                    Due.is("commits", x.told(5), keys + 1);
                    Due.thrown("it is OFF", Refused.STATE, () -> upkeep(x, call));
                    Due.is("SIZE", x.reopen(), 10 + 210 * keys);
                    Due.is("the map", x.digest(-1), map);
                    upkeep(x, call);
                    Due.is("the map", x.digest(-1), map);
                }
            }
        }
    }

    /** Refused, whatever power was told before; that is not forgotten by it. */
    private static void powerIsRefused(int when, int k, int b) {
        for (int before = 0; before <= 3; before++) {
            int told = before;
            Refused.call("power(" + when + ", " + k + ", " + b + ")", Refused.ARGUMENT, x -> {
                Make.keys(x, 1, 2);
                x.power(told, 0, 0);
            }, x -> x.power(when, k, b));
        }
        Refused.call("power(" + when + ", " + k + ", " + b + "), OFF", Refused.ARGUMENT, x -> {
            Make.off(x);
            x.power(2, 0, 0);
        }, x -> x.power(when, k, b));
    }

    private static void powerIsTaken(int when, int k, int b) {
        Face x = Both.fresh();
        Make.keys(x, 1);
        x.power(when, k, b);
        Due.is("it is on", x.told(0), 1);
        if (when < 2) {
            Due.thrown("a commit fails", Refused.POWER, x::put);
        } else if (when == 2) {
            Due.thrown("a flush fails", Refused.POWER, x::flush);
        } else {
            x.flush();
            Due.is("nothing fails", x.put(), 13);
        }
    }

    private static void whenIsRefused() {
        for (int when = 0; when <= 3; when++) {
            powerIsTaken(when, 1, 1);
        }
        for (int when : OUTSIDE) {
            powerIsRefused(when, 0, 0);
        }
        powerIsRefused(4, 0, 0);
        powerIsRefused(5, 400, 300);
    }

    private static void kIsRefused() {
        for (int when = 0; when <= 3; when++) {
            for (int k : new int[] {0, 1, 399, 400}) {
                powerIsTaken(when, k, 1);
            }
            for (int k : OUTSIDE) {
                powerIsRefused(when, k, 0);
            }
            powerIsRefused(when, 401, 0);
            powerIsRefused(when, 402, 300);
        }
    }

    private static void bIsRefused() {
        for (int when = 0; when <= 3; when++) {
            for (int b : new int[] {0, 1, 299, 300}) {
                powerIsTaken(when, 1, b);
            }
            for (int b : OUTSIDE) {
                powerIsRefused(when, 0, b);
            }
            powerIsRefused(when, 0, 301);
            powerIsRefused(when, 400, 302);
        }
    }

    private static void failsOnce() {
        for (int when = 0; when <= 2; when++) {
            Face x = Both.fresh();
            Make.keys(x, 1);
            x.power(when, 0, 0);
            Due.thrown("it fails", Refused.POWER, when == 2 ? x::flush : x::put);
            x.reopen();
            x.flush();
            Due.is("no commit fails", x.put(), 13);
            x.compact();
            x.begin();
            Due.is("nor another", x.commit(), 13);
            Due.is("nor reopen", x.reopen(), 13);
        }
    }

    private static void lastWordCounts() {
        for (int first = 0; first <= 3; first++) {
            for (int last = 0; last <= 3; last++) {
                Face x = Both.fresh();
                Make.keys(x, 1);
                x.power(first, 0, 0);
                x.power(last, 400, 300);
                Due.same("flush", new Step(Step.FLUSH, 0, 0, 0, false).on(x),
                    last == 2 ? "throws.ArithmeticException" : "0");
                x.power(first, 400, 300);
                x.power(last, 0, 0);
                x.key(2, 2, true);
                Due.is("power is told if it is OFF, too", x.told(0), last == 2 ? 0 : 1);
                if (last == 2) {
                    Due.thrown("reopen fails", Refused.POWER, x::reopen);
                    x.reopen();
                } else if (last == 3) {
                    Due.is("put", x.put(), 26);
                } else {
                    Due.thrown("put fails", Refused.POWER, x::put);
                    Due.is("commits", x.told(5), 1 + last);
                }
            }
        }
    }

    private static void failsInEachCommit() {
        for (int call : new int[] {Step.PUT, Step.REMOVE, Step.COMMIT}) {
            for (int when = 0; when <= 1; when++) {
                for (int k : new int[] {0, 400}) {
                    for (int b : new int[] {0, 1, 300}) {
                        Face x = Both.fresh();
                        Make.keys(x, 1, 2);
                        x.value(5, 1, true);
                        x.power(when, k, b);
                        Due.thrown("it fails", Refused.POWER, () -> commit(x, call));
                        Due.is("it is OFF", x.told(0), 0);
                        Due.is("commits", x.told(5), 2 + when);
                        int done = call == Step.PUT ? 24 : call == Step.REMOVE ? 13 : 26;
                        Due.is("SIZE", x.reopen(), when == 0 ? 26 : done);
                        Due.is("commits", x.told(5), 2 + when);
                    }
                }
            }
        }
    }

    /** Puts of every length of value: cut after any number of bytes, none of them is lasting. */
    private static void cutBeforeTheLastByte() {
        for (int inValue = 0; inValue <= 200; inValue++) {
            int write = 2 + 8 + 1 + inValue + 1;
            for (int b : new int[] {0, 1, write - 2, write - 1, write, write + 1, 300}) {
                Face x = Both.fresh();
                x.key(1, 1, true);
                Make.value(x, inValue);
                x.power(0, 0, b);
                Due.thrown("it fails", Refused.POWER, x::put);
                Due.is("it is not lasting", x.told(5), 0);
                Due.is("and nothing is there", x.reopen(), 0);
                Due.is("it can be done then", x.put(), 9 + inValue);
                Due.is("and lasts", x.reopen(), 9 + inValue);
            }
        }
        for (int steps : new int[] {0, 1, 2, 3, 63, 64}) {
            for (int b = 0; b <= 300; b += b < 20 ? 1 : 28) {
                Face x = Both.fresh();
                Make.keys(x, 100, 101);
                Make.batch(x, steps);
                x.power(0, 0, b);
                Due.thrown("it fails", Refused.POWER, x::commit);
                Due.is("it is not lasting", x.told(5), 2);
                Due.is("and nothing is done", x.reopen(), 26);
            }
        }
    }

    private static void allButCommits(Face x) {
        x.flush();
        x.compact();
        x.begin();
        Make.key(x, 9, 1);
        x.put();
        x.remove();
        x.cancel();
        x.key(0, 0, true);
        Due.thrown("an empty key", Refused.ARGUMENT, x::put);
        Due.thrown("no batch", Refused.STATE, x::commit);
        x.release(x.snapshot());
        x.seek(-1, false);
        x.get(-1);
        x.before(-1);
        x.digest(-1);
        x.check();
        Due.is("it is on", x.told(0), 1);
    }

    private static void onlyCommitsFail() {
        for (int when = 0; when <= 1; when++) {
            for (int call : new int[] {Step.PUT, Step.REMOVE, Step.COMMIT}) {
                Face x = Both.fresh();
                Make.keys(x, 1);
                x.power(when, 0, 0);
                allButCommits(x);
                allButCommits(x);
                Due.thrown("the next commit fails", Refused.POWER, () -> commit(x, call));
                Due.is("commits", x.told(5), 1 + when);
            }
        }
    }

    /** The last put of these makes a file of all, and so has writes behind the one that makes it lasting. */
    private static void putsTillAFile(Face x) {
        Make.value(x, 200);
        for (int i = 0; i < 9; i++) {
            x.key(i, 2, true);
            x.put();
        }
        x.key(9, 2, true);
    }

    private static void behindTheWrite() {
        for (int k = 0; k <= 60; k++) {
            for (int b : new int[] {0, 1, 2, 100, 299, 300}) {
                Face x = Both.fresh();
                putsTillAFile(x);
                x.power(1, k, b);
                Due.thrown("it fails", Refused.POWER, x::put);
                Due.is("it is lasting", x.told(5), 10);
                Due.is("and there", x.reopen(), 2100);
                Due.is("all of it", x.get(-1), 200);
                Due.is("nothing is wrong", x.check(), 0);
            }
        }
    }

    private static void notSoManyWrites() {
        for (int b : new int[] {0, 300}) {
            for (int k : new int[] {0, 1, 399, 400}) {
                Face x = Both.fresh();
                x.begin();
                x.power(1, k, b);
                Due.thrown("an empty batch", Refused.POWER, x::commit);
                Due.is("is lasting", x.told(5), 1);
                x.reopen();
                x.power(2, k, b);
                Due.thrown("flush of nothing", Refused.POWER, x::flush);
                x.reopen();
                x.power(2, k, b);
                Due.thrown("compact of nothing", Refused.POWER, x::compact);
                x.power(2, k, b);
                Due.thrown("reopen of nothing", Refused.POWER, x::reopen);
                Due.is("nothing is there", x.reopen(), 0);
                putsTillAFile(x);
                x.power(1, k, b);
                Due.thrown("a put with a file behind it", Refused.POWER, x::put);
                Due.is("is lasting", x.told(5), 11);
                Due.is("and there", x.reopen(), 2100);
            }
        }
    }

    private static void onlyUpkeepFails() {
        for (int call : new int[] {Step.FLUSH, Step.COMPACT, Step.REOPEN}) {
            for (int k : new int[] {0, 1, 5, 400}) {
                Face x = Both.fresh();
                x.power(2, k, 300 - k / 2);
                putsTillAFile(x);
                Due.is("a put that makes a file", x.put(), 2100);
                Due.is("a remove", x.remove(), 1890);
                x.begin();
                Due.is("a batch", x.commit(), 1890);
                Make.snapshots(x, 8);
                Due.is("the map is there", x.check(), 0);
                Due.thrown("the next one fails", Refused.POWER, () -> upkeep(x, call));
                Due.is("SIZE", x.reopen(), 1890);
                upkeep(x, call);
                Due.is("and then none", x.told(0), 1);
            }
        }
    }

    private static void notAtAll() {
        for (int k : new int[] {0, 400}) {
            for (int b : new int[] {0, 300}) {
                Face x = Both.fresh();
                putsTillAFile(x);
                x.power(NEVER, k, b);
                Due.is("put", x.put(), 2100);
                x.flush();
                x.compact();
                x.begin();
                Due.is("commit", x.commit(), 2100);
                Due.is("remove", x.remove(), 1890);
                Due.is("reopen", x.reopen(), 1890);
            }
        }
    }

    private static void reopenIfOnOrOff() {
        Face x = Both.fresh();
        Due.is("a new object", x.reopen(), 0);
        Due.is("again", x.reopen(), 0);
        Make.keys(x, 1, 2);
        Make.batch(x, 64);
        Make.snapshots(x, 8);
        Make.key(x, -1, 32);
        Make.value(x, 200);
        Due.is("as it is on", x.reopen(), 26);
        Due.is("no batch", x.told(3), -1);
        Due.is("no snapshots", x.told(4), 0);
        Due.is("the key stays", x.told(6), 32);
        Due.is("the value stays", x.told(7), 200);
        Due.is("its last bytes", x.bytes(true, 192), 0x0102030405060708L * 8);
        Make.off(x);
        Due.is("as it is OFF", x.reopen(), 26);
        Due.is("it is on", x.told(0), 1);
        Due.is("as it is on again", x.reopen(), 26);
        Face y = Both.fresh();
        Make.size(y, 16000);
        Due.is("the largest map", y.reopen(), 16000);
        y.compact();
        Due.is("and again", y.reopen(), 16000);
    }

    private static void reopenForgets() {
        for (boolean off : new boolean[] {false, true}) {
            for (int when = 0; when <= 3; when++) {
                Face x = Both.fresh();
                Make.keys(x, 1);
                if (off) {
                    Make.off(x);
                }
                x.power(when, 0, 0);
                if (when == 2) {
                    Due.thrown("this one it is for", Refused.POWER, x::reopen);
                }
                Due.is("reopen", x.reopen(), 13);
                x.key(1, 2, true);
                Due.is("put", x.put(), 13);
                x.flush();
                x.compact();
                x.begin();
                Due.is("commit", x.commit(), 13);
            }
        }
    }

    private static void failingReopen() {
        for (int keys : new int[] {1, 20}) {
            for (int k = 0; k <= 400; k += k < 50 ? 1 : 50) {
                Face x = Both.fresh();
                Make.size(x, keys * 210);
                Make.batch(x, 2);
                Make.snapshots(x, 3);
                for (int b : new int[] {0, 1, 300}) {
                    x.power(2, k, b);
                    Due.thrown("it fails", Refused.POWER, x::reopen);
                    Due.is("it is OFF", x.told(0), 0);
                    Due.is("SIZE", x.told(1), 0);
                    Due.is("keys", x.told(2), 0);
                    Due.is("batch", x.told(3), -1);
                    Due.is("snapshots", x.told(4), 0);
                    Due.is("commits", x.told(5), keys);
                    Due.thrown("it is OFF", Refused.STATE, x::check);
                }
                Due.is("reopen", x.reopen(), keys * 210);
                Due.is("it is on", x.told(0), 1);
                Due.is("nothing is wrong", x.check(), 0);
            }
        }
    }
}
