import java.util.NoSuchElementException;

/** A call that is refused: what it throws, and that no later call shows that it was made. */
final class Refused {
    /** Calls that are made of a store. */
    interface Calls {
        void on(Face x);
    }

    static final Class<IllegalArgumentException> ARGUMENT = IllegalArgumentException.class;
    static final Class<IllegalStateException> STATE = IllegalStateException.class;
    static final Class<NoSuchElementException> NO_SUCH = NoSuchElementException.class;
    static final Class<ArithmeticException> POWER = ArithmeticException.class;

    /* What a batch has and what power was told shows only later, in one of these. */
    private static final int[][] LATER = {
        {Step.PUT, Step.COMMIT, Step.REMOVE, Step.REOPEN},
        {Step.FLUSH, Step.COMMIT, Step.COMPACT, Step.REOPEN, Step.REOPEN},
        {Step.COMMIT, Step.SNAPSHOT, Step.BEGIN, Step.PUT, Step.COMMIT, Step.REOPEN},
        {Step.CANCEL, Step.COMPACT, Step.REMOVE, Step.REOPEN},
        {Step.REOPEN, Step.PUT, Step.FLUSH, Step.SNAPSHOT}};

    private Refused() {
    }

    static void call(
            String what, Class<? extends RuntimeException> want, Calls before, Calls refused) {
        call(what, want, before, refused, x -> { });
    }

    /** Where the document names what the refused call changes, the last calls do just that. */
    static void call(String what, Class<? extends RuntimeException> want, Calls before,
            Calls refused, Calls instead) {
        for (int[] later : LATER) {
            Face x = Both.fresh();
            Face twin = Both.fresh();
            before.on(x);
            before.on(twin);
            Due.thrown(what, want, () -> refused.on(x));
            instead.on(twin);
            Due.same(what + ", and what is seen later", tale(x, later), tale(twin, later));
        }
    }

    private static String tale(Face x, int[] later) {
        StringBuilder text = new StringBuilder(Step.state(x));
        for (int kind : later) {
            text.append(' ').append(new Step(kind, 0, 0, 0, false).on(x));
        }
        return text.append(' ').append(Step.state(x)).toString();
    }
}
