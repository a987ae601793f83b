/** Wrong inputs of every call: the answer that is due, and nothing changes. */
public final class WrongInputTest {
    private static final int[] ODD = {Integer.MIN_VALUE, Integer.MIN_VALUE + 1, -1000, -2, -1, 0, 1, 2,
        3, 4, 5, 6, 7, 8, 9, 40, 41, 255, 256, 1 << 16, 1 << 30, Integer.MAX_VALUE - 1,
        Integer.MAX_VALUE};

    public static void main(String[] args) {
        CircuitNet net = Nets.open(0, 2);
        net.send(0, 3, 4);
        Nets.settle(net);
        net.send(0, 3, 5);
        net.call(1, 0);
        String before = Nets.picture(net);
        for (int i : ODD) {
            for (int j : ODD) {
                channels(net, i, j);
                ends(net, i, j);
            }
            if (i < 1 || i > 40) {
                Check.due("tick(" + i + ")", net.tick(i), false);
            }
        }
        same(net, before, "wrong inputs");
        wrongStates(net, before);
        Check.due("the net still works", net.read(2, 1), 4);
        Check.finish();
    }

    private static void channels(CircuitNet net, int p, int c) {
        if (p < 0 || p > 3 || c < 0 || c > 3 || p == c) {
            Check.due("call(" + p + ", " + c + ")", net.call(p, c), -1);
        }
        if (p >= 0 && p <= 3 && c >= 1 && c <= 3) {
            return;
        }
        String at = "(" + p + ", " + c + ")";
        Check.due("answer" + at, net.answer(p, c), false);
        Check.due("clear" + at, net.clear(p, c), false);
        Check.due("reset" + at, net.reset(p, c), false);
        Check.due("send" + at, net.send(p, c, 5), -1);
        Check.due("read" + at, net.read(p, c), -1);
        Check.due("state" + at, net.state(p, c), -1);
        Check.due("peer" + at, net.peer(p, c), -1);
        Check.due("unread" + at, net.unread(p, c), -1);
    }

    private static void ends(CircuitNet net, int link, int end) {
        String at = "(" + link + ", " + end + ")";
        boolean there = link >= 0 && link <= 4 && end >= 0 && end <= 1;
        for (int k : ODD) {
            for (int w : ODD) {
                boolean frame = there && k >= 0 && k < net.frames(link, end) && w >= 0 && w <= 7;
                if (!frame) {
                    Check.due("frame" + at + " " + k + " " + w, net.frame(link, end, k, w), -1);
                }
            }
        }
        if (there) {
            return;
        }
        Check.due("deliver" + at, net.deliver(link, end), false);
        Check.due("lose" + at, net.lose(link, end), false);
        Check.due("frames" + at, net.frames(link, end), -1);
        Check.due("row" + at, net.row(link, end), -1);
        Check.due("epoch" + at, net.epoch(link, end), -1);
        Check.due("up" + at, net.up(link, end), false);
        Check.due("busy" + at, net.busy(link, end), -1);
    }

    private static void wrongStates(CircuitNet net, String before) {
        for (int v : ODD) {
            if (v < 0 || v > 255) {
                Check.due("send " + v, net.send(0, 3, v), -1);
            }
            Check.due("send on an IDLE channel", net.send(0, 2, v), -1);
            Check.due("send on a CALLING channel", net.send(1, 3, v), -1);
        }
        Check.due("answer while OPEN", net.answer(0, 3), false);
        Check.due("answer while IDLE", net.answer(0, 2), false);
        Check.due("answer while CALLING", net.answer(1, 3), false);
        Check.due("clear while IDLE", net.clear(0, 2), false);
        Check.due("reset while IDLE", net.reset(0, 2), false);
        Check.due("reset while CALLING", net.reset(1, 3), false);
        Check.due("read while IDLE", net.read(0, 2), -1);
        Check.due("read while CALLING", net.read(1, 3), -1);
        Check.due("read of nothing", net.read(0, 3), -1);
        Check.due("deliver nothing", net.deliver(3, 0), false);
        Check.due("lose nothing", net.lose(3, 0), false);
        same(net, before, "calls at the wrong time");
    }

    private static void same(CircuitNet net, String before, String what) {
        Check.due(what + " change nothing, which", Nets.picture(net).equals(before), true);
    }
}
