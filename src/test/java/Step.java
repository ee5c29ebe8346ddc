/** One call of the face with its arguments, to be made of the store and of the model alike. */
final class Step {
    static final int KEY = 0;
    static final int VALUE = 1;
    static final int BEGIN = 2;
    static final int PUT = 3;
    static final int REMOVE = 4;
    static final int COMMIT = 5;
    static final int CANCEL = 6;
    static final int SNAPSHOT = 7;
    static final int RELEASE = 8;
    static final int GET = 9;
    static final int SEEK = 10;
    static final int BEFORE = 11;
    static final int BYTES = 12;
    static final int FLUSH = 13;
    static final int COMPACT = 14;
    static final int POWER = 15;
    static final int REOPEN = 16;
    static final int TOLD = 17;
    static final int DIGEST = 18;
    static final int CHECK = 19;
    static final int KINDS = 20;

    private static final String[] NAMES = {
        "key", "value", "begin", "put", "remove", "commit", "cancel", "snapshot", "release", "get",
        "seek", "before", "bytes", "flush", "compact", "power", "reopen", "told", "digest", "check"};

    private final int kind;
    private final long w;
    private final int a;
    private final int b;
    private final boolean f;

    Step(int kind, long w, int a, int b, boolean f) {
        this.kind = kind;
        this.w = w;
        this.a = a;
        this.b = b;
        this.f = f;
    }

    String on(Face face) {
        return Due.answer(() -> call(face));
    }

    long call(Face face) {
        switch (kind) {
            case KEY: return face.key(w, a, f);
            case VALUE: return face.value(w, a, f);
            case BEGIN: face.begin(); return 0;
            case PUT: return face.put();
            case REMOVE: return face.remove();
            case COMMIT: return face.commit();
            case CANCEL: return face.cancel();
            case SNAPSHOT: return face.snapshot();
            case RELEASE: face.release(a); return 0;
            case GET: return face.get(a);
            case SEEK: return face.seek(a, f);
            case BEFORE: return face.before(a);
            case BYTES: return face.bytes(f, a);
            case FLUSH: face.flush(); return 0;
            case COMPACT: face.compact(); return 0;
            case POWER: face.power((int) w, a, b); return 0;
            case REOPEN: return face.reopen();
            case TOLD: return face.told(a);
            case DIGEST: return face.digest(a);
            default: return face.check();
        }
    }

    static String nameOf(int kind) {
        return NAMES[kind];
    }

    String text() {
        return NAMES[kind] + "(" + w + ", " + a + ", " + b + ", " + f + ")";
    }

    /** All that the face tells, in one text: what two objects in the same state must have alike. */
    static String state(Face face) {
        StringBuilder text = new StringBuilder();
        for (int what = 0; what < 8; what++) {
            text.append(face.told(what)).append(' ');
        }
        for (int at = 0; at < 200; at += 8) {
            text.append(at < 32 ? face.bytes(false, at) : 0).append(' ');
            text.append(face.bytes(true, at)).append(' ');
        }
        for (int s = -1; s < 8; s++) {
            int of = s;
            text.append(Due.answer(() -> face.digest(of))).append(' ');
        }
        return text.append(Due.answer(face::check)).toString();
    }
}
