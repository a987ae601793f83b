/** Steps that many tests share. */
final class Nets {
    private Nets() {
    }

    /** Delivers frames, end after end, until none is under way. */
    static void settle(CircuitNet net) {
        boolean moved = true;
        for (int round = 0; moved && round < 1000; round++) {
            moved = false;
            for (int link = 0; link < 5; link++) {
                moved |= net.deliver(link, 0);
                moved |= net.deliver(link, 1);
            }
        }
        Check.due("frames that do not come to rest", moved, false);
    }

    /** Delivers all that is under way to one end now, but nothing that is sent meanwhile. */
    static void deliverAll(CircuitNet net, int link, int end) {
        int n = net.frames(link, end);
        for (int i = 0; i < n; i++) {
            net.deliver(link, end);
        }
    }

    static void loseAll(CircuitNet net, int link, int end) {
        int n = net.frames(link, end);
        for (int i = 0; i < n; i++) {
            net.lose(link, end);
        }
    }

    /** A net at rest with one open circuit, from p's channel 3 to channel 1 of to. */
    static CircuitNet open(int p, int to) {
        CircuitNet net = new CircuitNet();
        Check.due("call", net.call(p, to), 3);
        settle(net);
        Check.due("answer", net.answer(to, 1), true);
        settle(net);
        Check.due("state of the caller", net.state(p, 3), 3);
        Check.due("state of the called", net.state(to, 1), 3);
        return net;
    }

    /** Compares all eight words of a frame. */
    static void frameIs(CircuitNet net, int link, int end, int k, int... words) {
        for (int w = 0; w < 8; w++) {
            int want = w < words.length ? words[w] : -1;
            Check.due("frame(" + link + ", " + end + ", " + k + ", " + w + ")",
                    net.frame(link, end, k, w), want);
        }
    }
}
