import java.lang.reflect.Constructor;
import java.lang.reflect.Field;
import java.lang.reflect.Member;
import java.lang.reflect.Method;
import java.lang.reflect.Modifier;
import java.util.Random;
import java.util.Set;
import java.util.TreeSet;

/** The public face: just what the document writes, with just the exceptions that it names; and 512 calls. */
public final class FaceTest {
    private static final int CALLS = 512;

    /* Each cycle is gone through again and again till 512 calls are made. */
    private static final Step[][] CYCLES = {
        {step(Step.PUT)},
        {step(Step.REMOVE)},
        {step(Step.PUT), step(Step.FLUSH)},
        {step(Step.PUT), step(Step.COMPACT)},
        {step(Step.PUT), step(Step.REOPEN)},
        {step(Step.PUT), step(Step.SNAPSHOT)},
        {step(Step.PUT), step(Step.SNAPSHOT), step(Step.FLUSH), key(0x0102, 2)},
        {step(Step.BEGIN), step(Step.COMMIT)},
        {step(Step.BEGIN), step(Step.PUT), step(Step.PUT), step(Step.COMMIT), key(7, 1)},
        {step(Step.BEGIN), step(Step.PUT)},
        {step(Step.SNAPSHOT), new Step(Step.RELEASE, 0, 0, 0, false)},
        {step(Step.FLUSH)},
        {step(Step.COMPACT)},
        {step(Step.REOPEN)},
        {power(0, 0, 100), step(Step.PUT), step(Step.REOPEN)},
        {power(1, 3, 100), step(Step.PUT), step(Step.REOPEN)},
        {step(Step.PUT), power(2, 9, 9), step(Step.FLUSH), step(Step.REOPEN)},
        {step(Step.PUT), power(2, 9, 9), step(Step.COMPACT), step(Step.REOPEN)},
        {power(2, 41, 9), step(Step.REOPEN), step(Step.REOPEN), step(Step.PUT)},
        {power(2, 9, 9), step(Step.REOPEN)}};

    private FaceTest() {
    }

    public static void main(String[] args) {
        Due.sentence("The public face", "public final class LsmStore", FaceTest::justTheFace);
        Due.sentence("The public face", "public LsmStore()", FaceTest::oneConstructor);
        Due.sentence("Promise 1", "LsmStore()", FaceTest::oneConstructor);
        Due.is("calls of the face", Document.countOfCalls(), Step.KINDS);
        for (int kind = 0; kind < Step.KINDS; kind++) {
            lineOfTheFace(kind);
        }
        Due.sentence("What it is", "An object is used for at most 512 calls after it has been made", () -> {
            for (Step[] cycle : CYCLES) {
                turning(cycle, CALLS);
                allIsTold(turning(cycle, CALLS - 51));
            }
            mostKeys();
        });
        Due.sentence("What it is", "what later calls answer is free", FaceTest::laterCallsThrowWhatIsNamed);
        Due.finish("FaceTest");
    }

    /** A promise begins with its call's line, and promise 2 is that of the first call. */
    private static void lineOfTheFace(int kind) {
        String line = Document.lineOf(kind);
        Due.sentence("The public face", line, () -> callIsThere(kind));
        Due.sentence("Promise " + (kind + 2), line.replace("public ", ""), () -> justWhatIsNamedComes(kind));
    }

    private static void callIsThere(int kind) {
        int found = 0;
        for (Method method : LsmStore.class.getDeclaredMethods()) {
            if (method.getName().equals(Step.nameOf(kind))) {
                Due.same("the call", method.toString(), Document.methodOf(kind));
                found++;
            }
        }
        Due.is("one of this name", found, 1);
    }

    private static void oneConstructor() {
        Constructor<?>[] all = LsmStore.class.getDeclaredConstructors();
        Due.is("constructors", all.length, 1);
        Due.same("the constructor", all[0].toString(), "public LsmStore()");
    }

    private static void justTheFace() {
        Due.same("the class", Modifier.toString(LsmStore.class.getModifiers()), "public final");
        TreeSet<String> want = new TreeSet<>();
        for (int kind = 0; kind < Document.countOfCalls(); kind++) {
            want.add(Document.methodOf(kind));
        }
        TreeSet<String> got = new TreeSet<>();
        for (Method method : LsmStore.class.getDeclaredMethods()) {
            if (isOpen(method)) {
                got.add(method.toString());
            }
        }
        Due.same("methods", got.toString(), want.toString());
        for (Field field : LsmStore.class.getDeclaredFields()) {
            Due.same(field.toString(), isOpen(field) ? "open" : "private", "private");
        }
        for (Class<?> inside : LsmStore.class.getDeclaredClasses()) {
            int modifiers = inside.getModifiers();
            boolean hidden = Modifier.isStatic(modifiers)
                && !Modifier.isPublic(modifiers) && !Modifier.isProtected(modifiers);
            Due.same(inside.toString(), hidden ? "hidden" : "open", "hidden");
        }
    }

    private static boolean isOpen(Member member) {
        return !Modifier.isPrivate(member.getModifiers()) && !member.isSynthetic();
    }

    private static Step step(int kind) {
        return new Step(kind, 0, 0, 0, false);
    }

    private static Step power(int when, int k, int b) {
        return new Step(Step.POWER, when, k, b, false);
    }

    private static Step key(long w, int n) {
        return new Step(Step.KEY, w, n, 0, true);
    }

    /** The largest key and value, then the cycle till so many calls are made: each answers as is due. */
    private static Face turning(Step[] cycle, int calls) {
        Face x = Both.fresh();
        Make.value(x, 200);
        Make.key(x, 0xF0F1F2F3F4F5F6F7L, 32);
        for (int i = 0; i < calls - 25 - 4; i++) {
            cycle[i % cycle.length].on(x);
        }
        return x;
    }

    /** 51 calls at most, the last of them check. */
    private static void allIsTold(Face x) {
        boolean on = x.told(0) == 1;
        x.power(3, 0, 0);
        if (!on) {
            x.reopen();
        }
        Due.is("nothing is wrong", x.check(), 0);
        Step.state(x);
    }

    /** A key and a put by turns: as many keys as 512 calls can put, found and counted by the last call. */
    private static void mostKeys() {
        Face x = Both.fresh();
        for (int i = 0; i < 255; i++) {
            x.key(i * 37 % 255, 1, true);
            Due.is("SIZE", x.put(), 9 * (i + 1));
        }
        Due.is("call 511", x.told(2), 255);
        Due.is("call 512", x.reopen(), 255 * 9);
        Face y = Both.fresh();
        y.key(1, 1, true);
        for (int i = 0; i < 510; i++) {
            Due.is("SIZE", y.put(), 9);
        }
        Due.is("call 512", y.told(5), 510);
    }

    private static void laterCallsThrowWhatIsNamed() {
        Random random = new Random(512);
        for (int run = 0; run < 10; run++) {
            Store store = new Store();
            for (int i = 0; i < 2000; i++) {
                int kind = random.nextInt(Step.KINDS);
                int a = random.nextInt(12) - 2;
                String answer = new Step(kind, random.nextInt(5), a, a, random.nextBoolean()).on(store);
                if (answer.startsWith("throws.")) {
                    boolean named = Document.mayThrow(kind, answer.substring("throws.".length()));
                    Due.same("call " + kind + " " + answer, named ? "named" : "not named", "named");
                }
            }
        }
    }

    /** Each exception that the face names for a call is thrown by it at some time, and no other ever. */
    private static void justWhatIsNamedComes(int kind) {
        String[] all = {"IllegalArgumentException", "IllegalStateException", "NoSuchElementException",
            "ArithmeticException"};
        Set<String> came = new TreeSet<>();
        for (int state = 0; state < 5; state++) {
            came.add(inState(kind, state));
        }
        Set<String> named = new TreeSet<>();
        for (String exception : all) {
            if (Document.mayThrow(kind, exception)) {
                named.add("throws." + exception);
            }
        }
        came.removeIf(answer -> !answer.startsWith("throws."));
        Due.same("what comes", came.toString(), named.toString());
    }

    /** Wrong arguments, OFF, power that fails in a commit or in upkeep, and a batch that is open. */
    private static String inState(int kind, int state) {
        Face x = Both.fresh();
        boolean wrong = state == 0;
        if (state == 1) {
            Make.off(x);
        } else if (state > 1) {
            Make.keys(x, 1);
        }
        if (state == 2 && kind == Step.COMMIT || state == 4) {
            x.begin();
        }
        if (state == 2 || state == 3) {
            x.power(state == 2 ? 0 : 2, 0, 0);
        }
        return new Step(kind, wrong ? 9 : 3, wrong ? 1000 : 0, 0, true).on(x);
    }
}
