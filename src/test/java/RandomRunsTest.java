/** Runs of 512 random calls, each call made of the store and of the model. */
public final class RandomRunsTest {
    private static final int CALLS = 512;
    private static final int RUNS = 1600;

    private RandomRunsTest() {
    }

    public static void main(String[] args) {
        int runs = args.length > 0 ? Integer.parseInt(args[0]) : RUNS;
        for (int run = 0; run < runs && !Due.anyWrong(); run++) {
            play(run);
        }
        Due.finish("RandomRunsTest");
    }

    private static void play(int run) {
        RandomCalls calls = new RandomCalls(run, run % RandomCalls.PROFILES);
        Store store = new Store();
        Model model = new Model();
        for (int i = 0; i < CALLS && !Due.anyWrong(); i++) {
            Step step = calls.next();
            String where = "run " + run + ", call " + i + ", " + step.text();
            String want = step.on(model);
            Due.same(where, step.on(store), want);
            if (calls.oneIn(16) || want.startsWith("throws") || i == CALLS - 1) {
                Due.same(where + ", state", Step.state(store), Step.state(model));
            }
        }
    }
}
