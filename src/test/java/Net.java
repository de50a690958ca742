/** A TextNet for tests, which counts its calls: behind the 512th the document promises nothing. */
final class Net {
    private static final int MOST_CALLS = 512;
    private final TextNet net = new TextNet();
    private int callsLeft;

    Net() {
        this(MOST_CALLS);
    }

    private Net(int calls) {
        callsLeft = calls;
    }

    /** For the few limits of the document that 512 calls can't reach. */
    static Net beyondThePromise() {
        return new Net(Integer.MAX_VALUE);
    }

    int callsLeft() {
        return callsLeft;
    }

    /** An error, which no test takes for an answer. */
    private TextNet called() {
        if (callsLeft == 0) {
            throw new AssertionError("a test uses a net for more than 512 calls");
        }
        callsLeft--;
        return net;
    }

    void line(int l, int a, int b) {
        called().line(l, a, b);
    }

    void route(int s, int one, int two, int length, int main, int alternate) {
        called().route(s, one, two, length, main, alternate);
    }

    void put(int i, int v) {
        called().put(i, v);
    }

    int file(int s, int length) {
        return called().file(s, length);
    }

    int send(int l, int channel) {
        return called().send(l, channel);
    }

    int carry(int l, int channel) {
        return called().carry(l, channel);
    }

    boolean disturb(int l, int channel, int how) {
        return called().disturb(l, channel, how);
    }

    boolean serve(int l, boolean is) {
        return called().serve(l, is);
    }

    int time(int minutes) {
        return called().time(minutes);
    }

    int delivered(int s) {
        return called().delivered(s);
    }

    int read(int s, int k, int i) {
        return called().read(s, k, i);
    }

    boolean arrived(int message, int k) {
        return called().arrived(message, k);
    }

    int channel(int l, int channel, int what) {
        return called().channel(l, channel, what);
    }

    int count(int s, int what) {
        return called().count(s, what);
    }
}
