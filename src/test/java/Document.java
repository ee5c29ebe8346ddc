/** The public face as the document writes it, in the order of Step. */
final class Document {
    private static final String[] FACE = {
        "public int key(long w, int n, boolean fresh) throws IllegalArgumentException;",
        "public int value(long w, int n, boolean fresh) throws IllegalArgumentException;",
        "public void begin() throws IllegalStateException;",
        "public int put() throws IllegalStateException, IllegalArgumentException, ArithmeticException;",
        "public int remove() throws IllegalStateException, IllegalArgumentException, ArithmeticException;",
        "public int commit() throws IllegalStateException, ArithmeticException;",
        "public int cancel() throws IllegalStateException;",
        "public int snapshot() throws IllegalStateException;",
        "public void release(int s) throws IllegalStateException, java.util.NoSuchElementException;",
        "public int get(int s) throws IllegalStateException, java.util.NoSuchElementException;",
        "public int seek(int s, boolean behind) throws IllegalStateException, java.util.NoSuchElementException;",
        "public int before(int s) throws IllegalStateException, java.util.NoSuchElementException;",
        "public long bytes(boolean value, int at) throws IllegalArgumentException;",
        "public void flush() throws IllegalStateException, ArithmeticException;",
        "public void compact() throws IllegalStateException, ArithmeticException;",
        "public void power(int when, int k, int b) throws IllegalArgumentException;",
        "public int reopen() throws ArithmeticException;",
        "public int told(int what) throws IllegalArgumentException;",
        "public long digest(int s) throws IllegalStateException, java.util.NoSuchElementException;",
        "public int check() throws IllegalStateException;"};

    private Document() {
    }

    static int calls() {
        return FACE.length;
    }

    /** A call's line, as Java tells of a method: types alone, and whole names of exceptions. */
    static String methodOf(int kind) {
        return FACE[kind].replaceAll(" (w|n|fresh|s|behind|value|at|when|k|b|what)\\b(?=[,)])", "")
            .replaceAll(", (?=int|boolean)", ",")
            .replaceAll(", (?=[IAj])", ",")
            .replaceAll("([ ,])(?=[IA][a-zA-Z]*Exception)", "$1java.lang.")
            .replaceFirst("(\\w+)\\(", "LsmStore.$1(")
            .replace(";", "");
    }

    static boolean mayThrow(int kind, String exception) {
        return FACE[kind].matches(".*\\b" + exception + "\\b.*");
    }
}
