/**
 * Whole runs of 512 calls of one object, each call made of the model too: power fails in each way that
 * promise 17 names, with an empty, a small and a full map, without and with an empty and a full batch,
 * with no, three and eight snapshots. The run goes on from what is left, and makes the map empty.
 */
public final class WholeRunsTest {
    private static final int CALLS = 512;
    private static final int[] SIZES = {0, 1234, 16000};
    private static final int NO_BATCH = -1;
    private static final int[] BATCHES = {NO_BATCH, 0, 64};
    private static final int[] SNAPSHOTS = {0, 3, 8};

    private static final int COMMIT = Step.COMMIT;
    private static final int[] UPKEEP = {Step.FLUSH, Step.COMPACT, Step.REOPEN};

    /** A way in which power fails, and the call in which it does so: any COMMIT, or one of upkeep. */
    private record Way(int when, int k, int b, int call) {
    }

    private static int runs;

    private WholeRunsTest() {
    }

    public static void main(String[] args) {
        Due.sentence("Promise 17",
            "when 0: in the next COMMIT, as the write that would make it lasting is cut after b bytes", () -> {
                everyState(new Way(0, 400, 0, COMMIT));
                everyState(new Way(0, 0, 1, COMMIT));
                everyState(new Way(0, 0, 2, COMMIT));
            });
        Due.sentence("Promise 17", "(before its last one, if it has not more)",
            () -> everyState(new Way(0, 0, 300, COMMIT)));
        Due.sentence("Promise 17", "as write k (the first is 0) from there on is cut after b bytes", () -> {
            everyState(new Way(1, 0, 0, COMMIT));
            everyState(new Way(1, 1, 5, COMMIT));
            everyState(new Way(1, 3, 300, COMMIT));
        });
        Due.sentence("Promise 17", "2: in the next flush, compact or reopen, as write k is cut after b bytes", () -> {
            for (int call : UPKEEP) {
                everyState(new Way(2, 0, 0, call));
                everyState(new Way(2, 2, 17, call));
                everyState(new Way(2, 37, 100, call));
            }
        });
        Due.sentence("Promise 17", "or, if there are not so many, at its end", () -> {
            everyState(new Way(1, 400, 0, COMMIT));
            for (int call : UPKEEP) {
                everyState(new Way(2, 400, 300, call));
            }
        });
        Due.sentence("Promise 17", "3: not at all", () -> {
            everyState(new Way(3, 0, 0, COMMIT));
            for (int call : UPKEEP) {
                everyState(new Way(3, 0, 0, call));
            }
        });
        Due.finish("WholeRunsTest, " + runs + " runs");
    }

    private static void everyState(Way way) {
        for (int size : SIZES) {
            for (int batch : BATCHES) {
                for (int snapshots : SNAPSHOTS) {
                    run(way, size, batch, snapshots);
                }
            }
        }
    }

    private static void run(Way way, int size, int batch, int snapshots) {
        runs++;
        Face x = Both.fresh();
        Make.size(x, size);
        moveOn(x);
        Make.snapshots(x, snapshots);
        if (batch != NO_BATCH) {
            open(x, batch);
        }
        Due.is("SIZE", x.told(1), size);
        Due.is("the batch", x.told(3), batch);
        Due.is("snapshots", x.told(4), (1 << snapshots) - 1);
        fail(x, way, batch != NO_BATCH);
        whatIsLeft(x);
        goOn(x);
        Due.is("calls of one object", Both.callsOf(x), CALLS);
    }

    private static String make(Face x, int kind, int a) {
        return new Step(kind, 0, a, 0, false).on(x);
    }

    /** Entries stand in the log and in files of any level, as the number of the run will have it. */
    private static void moveOn(Face x) {
        if (runs % 4 == 1) {
            x.flush();
        } else if (runs % 4 == 2) {
            x.compact();
        } else if (runs % 4 == 3) {
            x.reopen();
        }
    }

    /** Puts and removes of keys that a full map has, so that it never grows too large. */
    private static void open(Face x, int steps) {
        x.begin();
        for (int i = 0; i < steps; i++) {
            x.key(i * 5 % 76, 2, true);
            if ((i + runs) % 3 == 0) {
                x.put();
            } else {
                x.remove();
            }
        }
    }

    private static void fail(Face x, Way way, boolean inBatch) {
        x.key(76, 2, true);
        x.power(way.when, way.k, way.b);
        boolean single = way.call == COMMIT && !inBatch;
        int call = single ? runs % 2 == 0 ? Step.PUT : Step.REMOVE : way.call;
        String answer = make(x, call, 0);
        boolean failed = answer.equals("throws.ArithmeticException");
        Due.is(Step.nameOf(call) + " fails", failed ? 1 : 0, way.when == 3 ? 0 : 1);
        Due.is("it is on", x.told(0), failed ? 0 : 1);
    }

    private static void whatIsLeft(Face x) {
        for (int round = 0; round < 2; round++) {
            for (int what = 0; what < 8; what++) {
                x.told(what);
            }
            make(x, Step.DIGEST, -1);
            make(x, Step.DIGEST, 0);
            make(x, Step.CHECK, 0);
            make(x, Step.GET, -1);
            if (round == 0) {
                x.reopen();
            }
        }
    }

    /** Random calls, then as many removes as the run has calls left, and the last calls tell what is there. */
    private static void goOn(Face x) {
        RandomCalls random = new RandomCalls(runs, runs % RandomCalls.PROFILES);
        int most = Math.min(CALLS - 20, Math.max(Both.callsOf(x) + 20, CALLS - 180));
        while (Both.callsOf(x) < most) {
            random.next().on(x);
        }
        x.power(3, 0, 0);
        x.reopen();
        x.key(0, 0, true);
        while (Both.callsOf(x) < CALLS - 5 && x.seek(-1, true) >= 0) {
            x.remove();
        }
        if (Both.callsOf(x) < CALLS - 5) {
            Due.is("the map is empty", x.told(1), 0);
        }
        while (Both.callsOf(x) < CALLS - 3) {
            random.next().on(x);
        }
        make(x, Step.CHECK, 0);
        make(x, Step.DIGEST, -1);
        make(x, Step.REOPEN, 0);
    }
}
