/** Steps that many tests share. */
final class Nets {
    private Nets() {
    }

    /** Delivers frames, end after end, until none is under way. */
    static void settle(CircuitNet net) {
        boolean moved = true;
        for (int round = 0; moved && round < 1000; round++) {
            moved = false;
            for (int link = 0; link < 5; link++) {
                moved |= net.deliver(link, 0);
                moved |= net.deliver(link, 1);
            }
        }
        Check.due("frames that do not come to rest", moved, false);
    }

    /** Delivers all that is under way to one end now, but nothing that is sent meanwhile. */
    static void deliverAll(CircuitNet net, int link, int end) {
        int n = net.frames(link, end);
        for (int i = 0; i < n; i++) {
            net.deliver(link, end);
        }
    }

    static void loseAll(CircuitNet net, int link, int end) {
        int n = net.frames(link, end);
        for (int i = 0; i < n; i++) {
            net.lose(link, end);
        }
    }

    /** Loses all but the last frame that is under way to an end, and delivers that one. */
    static void deliverLast(CircuitNet net, int link, int end) {
        int n = net.frames(link, end);
        for (int i = 1; i < n; i++) {
            net.lose(link, end);
        }
        net.deliver(link, end);
    }

    /** A net at rest with one open circuit, from p's channel 3 to channel 1 of to. */
    static CircuitNet open(int p, int to) {
        CircuitNet net = new CircuitNet();
        Check.due("call", net.call(p, to), 3);
        settle(net);
        Check.due("answer", net.answer(to, 1), true);
        settle(net);
        Check.due("state of the caller", net.state(p, 3), 3);
        Check.due("state of the called", net.state(to, 1), 3);
        return net;
    }

    /** Values that go from p's channel 3 to channel 1 of to and are read there, one by one. */
    static void pass(CircuitNet net, int p, int to, int values) {
        for (int i = 0; i < values; i++) {
            Check.due("a value is sent", net.send(p, 3, i) >= 0, true);
            settle(net);
            Check.due("and read", net.read(to, 1), i);
            settle(net);
        }
    }

    /** Compares all eight words of a frame. */
    static void frameIs(CircuitNet net, int link, int end, int k, int... words) {
        for (int w = 0; w < 8; w++) {
            int want = w < words.length ? words[w] : -1;
            Check.due("frame(" + link + ", " + end + ", " + k + ", " + w + ")",
                    net.frame(link, end, k, w), want);
        }
    }

    /** Word w of all frames that are under way to an end. */
    static String words(CircuitNet net, int link, int end, int w) {
        StringBuilder text = new StringBuilder();
        int n = net.frames(link, end);
        for (int k = 0; k < n; k++) {
            text.append(k == 0 ? "" : " ").append(net.frame(link, end, k, w));
        }
        return text.toString();
    }

    static void wordsAre(CircuitNet net, int link, int end, int w, String want) {
        Check.due("word " + w + " of the frames to end " + end + " of link " + link,
                words(net, link, end, w), want);
    }

    /** All that can be seen of a net. */
    static String picture(CircuitNet net) {
        StringBuilder text = new StringBuilder();
        for (int p = 0; p < 4; p++) {
            for (int c = 1; c <= 3; c++) {
                text.append(net.state(p, c)).append(' ').append(net.peer(p, c)).append(' ');
                text.append(net.unread(p, c)).append(' ');
            }
        }
        for (int link = 0; link < 5; link++) {
            for (int end = 0; end < 2; end++) {
                text.append(net.row(link, end)).append(' ').append(net.epoch(link, end)).append(' ');
                text.append(net.up(link, end)).append(' ').append(net.busy(link, end)).append(' ');
                for (int k = 0; k < net.frames(link, end); k++) {
                    for (int w = 0; w < 8; w++) {
                        text.append(net.frame(link, end, k, w)).append(' ');
                    }
                }
            }
        }
        return text.toString();
    }
}
