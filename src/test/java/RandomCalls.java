import java.util.Random;

/** Random calls, by one of eight profiles: of what there are more, and how large keys and values are. */
final class RandomCalls {
    static final int PROFILES = 8;
    private static final int LARGE = 6;

    private final Random random;
    private final int profile;
    private final int[] chances = new int[Step.KINDS];
    private int total;
    private int made;

    RandomCalls(int seed, int profile) {
        random = new Random(seed);
        this.profile = profile;
        setChances();
    }

    boolean oneIn(int count) {
        return random.nextInt(count) == 0;
    }

    /** Profiles of a full map begin with a value of 200 bytes. */
    Step next() {
        made++;
        if (profile >= LARGE && made <= 25) {
            return new Step(Step.VALUE, random.nextLong(), 8, 0, false);
        }
        return anyStep();
    }

    private void setChances() {
        set(Step.KEY, 30);
        set(Step.VALUE, 20);
        set(Step.PUT, 30);
        set(Step.REMOVE, 8);
        set(Step.BEGIN, 2);
        set(Step.COMMIT, 2);
        set(Step.CANCEL, 1);
        set(Step.SNAPSHOT, 2);
        set(Step.RELEASE, 1);
        set(Step.GET, 6);
        set(Step.SEEK, 6);
        set(Step.BEFORE, 6);
        set(Step.BYTES, 2);
        set(Step.FLUSH, profile == 1 ? 20 : 2);
        set(Step.COMPACT, profile == 2 ? 10 : 1);
        set(Step.POWER, profile == 3 ? 20 : profile == 5 ? 0 : 1);
        set(Step.REOPEN, profile == 3 ? 20 : 3);
        set(Step.TOLD, 2);
        set(Step.DIGEST, 2);
        set(Step.CHECK, 2);
        if (profile == 4) {
            set(Step.BEGIN, 8);
            set(Step.COMMIT, 3);
        }
        if (profile >= LARGE) {
            set(Step.KEY, 100);
            set(Step.PUT, 100);
            set(Step.VALUE, 1);
            set(Step.REMOVE, 4);
            set(Step.GET, 1);
            set(Step.BEGIN, profile == LARGE ? 0 : 6);
            set(Step.COMMIT, profile == LARGE ? 0 : 3);
            set(Step.SEEK, 2);
        }
        if (profile == 5) {
            set(Step.PUT, 200);
            set(Step.KEY, 120);
            set(Step.REOPEN, 0);
            set(Step.SNAPSHOT, 6);
        }
    }

    private void set(int kind, int chance) {
        total += chance - chances[kind];
        chances[kind] = chance;
    }

    private Step anyStep() {
        int place = random.nextInt(total);
        int kind = 0;
        while (place >= chances[kind]) {
            place -= chances[kind];
            kind++;
        }
        return stepOf(kind);
    }

    private Step stepOf(int kind) {
        boolean f = random.nextBoolean();
        switch (kind) {
            case Step.KEY:
                if (profile >= LARGE) {
                    return new Step(kind, random.nextInt(400) * 0x0301, 4, 0, random.nextInt(40) > 0);
                }
                return rowStep(kind, profile == 5 ? 2 : 4);
            case Step.VALUE:
                return rowStep(kind, 12);
            case Step.POWER:
                int k = random.nextInt(3) == 0 ? random.nextInt(420) - 5 : random.nextInt(40);
                int b = random.nextInt(3) == 0 ? random.nextInt(310) - 3 : random.nextInt(30);
                return new Step(kind, random.nextInt(20) == 0 ? 5 : random.nextInt(4), k, b, f);
            case Step.BYTES:
                return new Step(kind, 0, random.nextInt(210) - 4, 0, f);
            case Step.TOLD:
                return new Step(kind, 0, random.nextInt(11) - 1, 0, f);
            default:
                int s = random.nextInt(3) == 0 ? random.nextInt(11) - 2 : -1;
                return new Step(kind, 0, kind == Step.RELEASE ? random.nextInt(11) - 2 : s, 0, f);
        }
    }

    private Step rowStep(int kind, int oneInFresh) {
        boolean fresh = random.nextInt(oneInFresh) == 0;
        boolean odd = random.nextInt(40) == 0;
        int n = odd ? random.nextInt(14) - 3 : 1 + random.nextInt(kind == Step.KEY ? 3 : 8);
        if (kind == Step.VALUE && random.nextInt(2) == 0) {
            n = 8;
        }
        boolean wide = random.nextInt(6) == 0;
        long w = wide ? random.nextLong() : random.nextInt(5) * 0x0101010101L;
        return new Step(kind, w, n, 0, fresh);
    }
}
