import java.util.Random;

/**
 * Far more calls than an object is used for: what they answer is free, but none may throw what the
 * document does not name for it, and each must end. Up to call 512 a flush always finds room.
 */
public final class LongRunsTest {
    private LongRunsTest() {
    }

    public static void main(String[] args) {
        Due.sentence("What it is", "what later calls answer is free", () -> {
            for (int run = 0; run < 24; run++) {
                play(run);
            }
            manyVersionsOfManyKeys();
        });
        Due.sentence("What it is", "An object is used for at most 512 calls after it has been made", () -> {
            for (int run = 0; run < 300; run++) {
                roomFor512Calls(run);
            }
        });
        Due.finish("LongRunsTest");
    }

    private static void play(int run) {
        Random random = new Random(run);
        Store store = new Store();
        for (int i = 0; i < 12000; i++) {
            int kind = random.nextInt(Step.KINDS * 2) % (Step.KINDS + run % 2);
            kind = kind >= Step.KINDS || random.nextInt(3) == 0 ? Step.PUT : kind;
            if (kind == Step.POWER && random.nextInt(4) != 0) {
                kind = Step.KEY;
            }
            make(store, kind, random, "run " + run + ", call " + i + ", ");
        }
    }

    private static void make(Store store, int kind, Random random, String where) {
        int a = kind == Step.POWER ? random.nextInt(420) - 9 : random.nextInt(11) - 2;
        long w = kind == Step.POWER ? random.nextInt(5) : random.nextInt(3000);
        Step step = new Step(kind, w, a, random.nextInt(310) - 4, random.nextInt(3) == 0);
        String answer = step.on(store);
        if (answer.startsWith("throws.")) {
            String name = answer.substring("throws.".length());
            boolean named = Document.mayThrow(kind, name);
            Due.same(where + step.text(), named ? "named" : name, "named");
        }
    }

    /** Eight snapshots of many small keys: more versions than one compact can hold. */
    private static void manyVersionsOfManyKeys() {
        Store store = new Store();
        Random random = new Random(99);
        for (int i = 0; i < 20000; i++) {
            new Step(Step.KEY, random.nextInt(1400), 2, 0, true).on(store);
            new Step(Step.VALUE, i, 1, 0, true).on(store);
            String answer = new Step(Step.PUT, 0, 0, 0, false).on(store);
            if (answer.startsWith("throws.")) {
                Due.same("filling, call " + i, answer, "throws.IllegalStateException");
            }
            if (i % 500 == 0) {
                make(store, Step.SNAPSHOT, random, "filling, ");
                make(store, Step.DIGEST, random, "filling, ");
                make(store, Step.CHECK, random, "filling, ");
                make(store, i % 3000 == 0 ? Step.COMPACT : Step.FLUSH, random, "filling, ");
            }
        }
        Due.is("reopen ends", store.reopen() >= 0 ? 1 : 0, 1);
        Due.is("check ends", store.check() >= 0 ? 1 : 0, 1);
        Due.is("seek ends", store.seek(-1, true) >= -1 ? 1 : 0, 1);
    }

    /** The most blocks that 512 calls can use: large entries, snapshots, and a flush now and then. */
    private static void roomFor512Calls(int run) {
        Random random = new Random(run);
        LsmStore x = new LsmStore();
        int words = random.nextInt(26);
        for (int i = 0; i < words; i++) {
            x.value(random.nextLong(), 8, false);
        }
        int keys = 20 + random.nextInt(200);
        int flushEvery = 1 + random.nextInt(8);
        int snapshotEvery = 1 + random.nextInt(80);
        int calls = words;
        for (int i = 0; calls < 509; i++) {
            x.key((long) (i * 37 % keys) << 40, 8, true);
            boolean fits = x.told(1) + 8 + 8 + words * 8 <= 16000;
            Due.is("run " + run + ", change " + i, (fits ? x.put() : x.remove()) >= 0 ? 1 : 0, 1);
            calls += 2;
            if (i % snapshotEvery == 0) {
                Due.answer(x::snapshot);
                calls++;
            }
            if (i % flushEvery == 0) {
                x.flush();
                Due.is("run " + run + ", flush", Inside.number(Inside.of(x, "log"), "used"), 0);
                calls++;
            }
        }
        x.compact();
        Due.is("run " + run + ", all is in level 2", Inside.tables(x, 0) + Inside.tables(x, 1), 0);
        Due.is("run " + run + ", check", x.check(), 0);
    }
}
