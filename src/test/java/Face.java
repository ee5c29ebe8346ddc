/** The public face of the document, so that the store and the model can be called alike. */
interface Face {
    int key(long w, int n, boolean fresh);

    int value(long w, int n, boolean fresh);

    void begin();

    int put();

    int remove();

    int commit();

    int cancel();

    int snapshot();

    void release(int s);

    int get(int s);

    int seek(int s, boolean behind);

    int before(int s);

    long bytes(boolean value, int at);

    void flush();

    void compact();

    void power(int when, int k, int b);

    int reopen();

    int told(int what);

    long digest(int s);

    int check();
}
