/** A HeaderLine that holds its test to the 512 calls for which the document promises answers. */
final class Line {
    static final int CALLS = 512;

    private final HeaderLine real;
    private int calls;

    Line(int w) {
        real = new HeaderLine(w);
    }

    int callsLeft() {
        return CALLS - calls;
    }

    private HeaderLine next() {
        calls++;
        if (calls == CALLS + 1) {
            Due.holds("the test keeps to " + CALLS + " calls of an object", false);
        }
        return real;
    }

    int field(int kind, int width, int a, int b) {
        return next().field(kind, width, a, b);
    }

    long set(int field, long value) {
        return next().set(field, value);
    }

    int stride(int flow, int field, int s) {
        return next().stride(flow, field, s);
    }

    int send(int flow, boolean whole) {
        return next().send(flow, whole);
    }

    int ack(int flow) {
        return next().ack(flow);
    }

    int nack(int flow) {
        return next().nack(flow);
    }

    int deliver(int l) {
        return next().deliver(l);
    }

    int lose(int l) {
        return next().lose(l);
    }

    int twice(int l) {
        return next().twice(l);
    }

    int bend(int l, int k, int mask) {
        return next().bend(l, k, mask);
    }

    int octet(int l, int k) {
        return next().octet(l, k);
    }

    int look(int l, int what) {
        return next().look(l, what);
    }

    int prove(int l, int field, int what) {
        return next().prove(l, field, what);
    }

    long got(int field) {
        return next().got(field);
    }

    int way(int field) {
        return next().way(field);
    }

    int hung(int what) {
        return next().hung(what);
    }

    int context(int flow, int what) {
        return next().context(flow, what);
    }

    long known(int flow, int field, boolean strides) {
        return next().known(flow, field, strides);
    }

    int squeezer(int flow, int what) {
        return next().squeezer(flow, what);
    }

    int forget(int flow, int end) {
        return next().forget(flow, end);
    }

    long spent(int flow, int kind, int what) {
        return next().spent(flow, kind, what);
    }

    int keep(int s, int what, int k) {
        return next().keep(s, what, k);
    }

    int make(int s, int what, int n) {
        return next().make(s, what, n);
    }

    long put(int s, int i, int v) {
        return next().put(s, i, v);
    }

    int copy(int s, int i, int t, int j, int n) {
        return next().copy(s, i, t, j, n);
    }

    int worth(int s) {
        return next().worth(s);
    }

    int toss(int s) {
        return next().toss(s);
    }

    int count(int what) {
        return next().count(what);
    }
}
