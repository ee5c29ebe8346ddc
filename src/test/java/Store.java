/** The store itself behind the face. */
final class Store implements Face {
    final LsmStore store = new LsmStore();

    public int key(long w, int n, boolean fresh) {
        return store.key(w, n, fresh);
    }

    public int value(long w, int n, boolean fresh) {
        return store.value(w, n, fresh);
    }

    public void begin() {
        store.begin();
    }

    public int put() {
        return store.put();
    }

    public int remove() {
        return store.remove();
    }

    public int commit() {
        return store.commit();
    }

    public int cancel() {
        return store.cancel();
    }

    public int snapshot() {
        return store.snapshot();
    }

    public void release(int s) {
        store.release(s);
    }

    public int get(int s) {
        return store.get(s);
    }

    public int seek(int s, boolean behind) {
        return store.seek(s, behind);
    }

    public int before(int s) {
        return store.before(s);
    }

    public long bytes(boolean value, int at) {
        return store.bytes(value, at);
    }

    public void flush() {
        store.flush();
    }

    public void compact() {
        store.compact();
    }

    public void power(int when, int k, int b) {
        store.power(when, k, b);
    }

    public int reopen() {
        return store.reopen();
    }

    public int told(int what) {
        return store.told(what);
    }

    public long digest(int s) {
        return store.digest(s);
    }

    public int check() {
        return store.check();
    }
}
