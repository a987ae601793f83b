/** The edges of promises 11 to 19, the calls that look, and of the 512 calls of an object's life. */
public final class LookEdgeTest {
    private static final int[] NO_TERMINAL = {-1, 4, 5, Integer.MIN_VALUE, Integer.MAX_VALUE};
    private static final int[] NO_CHANNEL = {-1, 0, 4, Integer.MIN_VALUE, Integer.MAX_VALUE};
    private static final int[] NO_LINK = {-1, 5, Integer.MIN_VALUE, Integer.MAX_VALUE};
    private static final int[] NO_END = {-1, 2, Integer.MIN_VALUE, Integer.MAX_VALUE};

    public static void main(String[] args) {
        terminals();
        frames();
        ends();
        Check.edge("An object is used for at most 512 calls (all of them)", LookEdgeTest::longLife);
        Check.edge("A packet that is PUT into the row of an end comes last (the longest row)",
                LookEdgeTest::longRow);
        Check.edge("An object is used for at most 512 calls (the most ticks)", LookEdgeTest::mostTicks);
        Check.finish();
    }

    private static void terminals() {
        Check.edge("Promise 11: NONE when there is no such terminal or channel",
                LookEdgeTest::stateNowhere);
        Check.edge("Promise 12: NONE when there is no such terminal or channel",
                LookEdgeTest::peerNowhere);
        Check.edge("Promise 12: or it is IDLE or CLEARING", LookEdgeTest::peerInEachState);
        Check.edge("Promise 13: NONE when there is no such terminal or channel",
                LookEdgeTest::unreadNowhere);
        Check.edge("Promise 13: How many values came on a channel and were not read",
                LookEdgeTest::unreadNoneToThree);
        Check.edge("Promise 13: (What was not read is gone when the channel is not OPEN any more.)",
                LookEdgeTest::unreadIsGone);
        Check.edge("Promise 13: (None, when it is not OPEN.)", LookEdgeTest::unreadElsewhere);
    }

    private static void frames() {
        Check.edge("Promise 14: NONE when there is no such link or end", LookEdgeTest::framesNowhere);
        Check.edge("Promise 14: How many frames (none to eight)", LookEdgeTest::framesNoneToEight);
        Check.edge("Promise 15: NONE when there is no such link, end", LookEdgeTest::frameNowhere);
        Check.edge("Promise 15: or frame", LookEdgeTest::noSuchFrame);
        Check.edge("Promise 15: w is not 0 .. 7", LookEdgeTest::noSuchWord);
        Check.edge("Promise 15: or that kind of frame has none (SET)", LookEdgeTest::wordsOfSet);
        Check.edge("Promise 15: or that kind of frame has none (SETTLED)", LookEdgeTest::wordsOfSettled);
        Check.edge("Promise 15: READY its due, too", LookEdgeTest::wordsOfReady);
        Check.edge("Promise 15: its kind (w = 0), epoch (1), the number of its packet (2) (INFO)",
                LookEdgeTest::wordsOfInfo);
    }

    private static void ends() {
        Check.edge("Promise 16: NONE when there is no such link or end", LookEdgeTest::rowNowhere);
        Check.edge("Promise 16: How many packets are in the row", LookEdgeTest::rowOfBothKinds);
        Check.edge("Promise 17: NONE when there is no such link or end", LookEdgeTest::epochNowhere);
        Check.edge("Promise 18: false when it is not, or there is no such link or end",
                LookEdgeTest::upNowhere);
        Check.edge("Promise 19: NONE when there is no such link or end", LookEdgeTest::busyNowhere);
        Check.edge("Promise 19: neither IDLE nor FREE (none to three)", LookEdgeTest::busyNoneToThree);
    }

    private static void stateNowhere() {
        CircuitNet net = new CircuitNet();
        for (int p : NO_TERMINAL) {
            Check.due("state(" + p + ", 1)", net.state(p, 1), -1);
        }
        for (int c : NO_CHANNEL) {
            Check.due("state(0, " + c + ")", net.state(0, c), -1);
        }
        for (int p = 0; p < 4; p++) {
            Check.due("the least channel", net.state(p, 1), 0);
            Check.due("the greatest channel", net.state(p, 3), 0);
        }
    }

    private static void peerNowhere() {
        CircuitNet net = Nets.open(0, 3);
        for (int p : NO_TERMINAL) {
            Check.due("peer(" + p + ", 1)", net.peer(p, 1), -1);
        }
        for (int c : NO_CHANNEL) {
            Check.due("peer(0, " + c + ")", net.peer(0, c), -1);
        }
        Check.due("peer(0, 3)", net.peer(0, 3), 3);
        Check.due("peer(3, 1)", net.peer(3, 1), 0);
    }

    private static void peerInEachState() {
        CircuitNet net = new CircuitNet();
        Check.due("IDLE", net.peer(2, 3), -1);
        net.call(2, 0);
        Check.due("CALLING", net.peer(2, 3), 0);
        Nets.settle(net);
        Check.due("RINGING", net.peer(0, 1), 2);
        net.answer(0, 1);
        Check.due("OPEN", net.peer(0, 1), 2);
        Nets.settle(net);
        net.reset(2, 3);
        Check.due("RESETTING", net.peer(2, 3), 0);
        net.clear(2, 3);
        Check.due("CLEARING", net.peer(2, 3), -1);
        Nets.settle(net);
        Check.due("IDLE again", net.peer(2, 3), -1);
        Check.due("IDLE by CLEAR", net.peer(0, 1), -1);
    }

    private static void unreadNowhere() {
        CircuitNet net = Nets.open(0, 3);
        for (int p : NO_TERMINAL) {
            Check.due("unread(" + p + ", 1)", net.unread(p, 1), -1);
        }
        for (int c : NO_CHANNEL) {
            Check.due("unread(0, " + c + ")", net.unread(0, c), -1);
        }
    }

    private static void unreadNoneToThree() {
        CircuitNet net = Nets.open(0, 1);
        for (int n = 0; n <= 3; n++) {
            Check.due("unread", net.unread(1, 1), n);
            net.send(0, 3, n);
            Nets.settle(net);
        }
        for (int n = 3; n >= 0; n--) {
            Check.due("unread", net.unread(1, 1), n);
            Check.due("read", net.read(1, 1), n == 0 ? -1 : 3 - n);
        }
    }

    private static CircuitNet oneUnread() {
        CircuitNet net = Nets.open(0, 1);
        net.send(0, 3, 1);
        Nets.settle(net);
        Check.due("unread", net.unread(1, 1), 1);
        return net;
    }

    private static void unreadIsGone() {
        CircuitNet resetting = oneUnread();
        resetting.reset(1, 1);
        Check.due("RESETTING", resetting.unread(1, 1), 0);
        Nets.settle(resetting);
        Check.due("OPEN again", resetting.unread(1, 1), 0);
        CircuitNet clearing = oneUnread();
        clearing.clear(1, 1);
        Check.due("CLEARING", clearing.unread(1, 1), 0);
        CircuitNet cleared = oneUnread();
        cleared.clear(0, 3);
        Nets.settle(cleared);
        Check.due("IDLE by CLEAR", cleared.unread(1, 1), 0);
        cleared.call(0, 1);
        Nets.settle(cleared);
        Check.due("RINGING", cleared.unread(1, 1), 0);
        cleared.answer(1, 1);
        Check.due("OPEN once more", cleared.unread(1, 1), 0);
        CircuitNet lost = oneUnread();
        lost.send(1, 1, 1);
        lost.tick(16);
        Check.due("LOST", lost.state(1, 1), 0);
        Check.due("IDLE by LOST", lost.unread(1, 1), 0);
    }

    /** No values are 0 values: NONE is for channels that are not there. */
    private static void unreadElsewhere() {
        CircuitNet net = new CircuitNet();
        Check.due("IDLE", net.unread(0, 3), 0);
        net.call(0, 1);
        Check.due("CALLING", net.unread(0, 3), 0);
        Nets.settle(net);
        Check.due("RINGING", net.unread(1, 1), 0);
        net.answer(1, 1);
        Nets.settle(net);
        Check.due("OPEN", net.unread(0, 3), 0);
        net.reset(0, 3);
        Check.due("RESETTING", net.unread(0, 3), 0);
        net.clear(0, 3);
        Check.due("CLEARING", net.unread(0, 3), 0);
    }

    private static void framesNowhere() {
        CircuitNet net = new CircuitNet();
        net.call(0, 1);
        for (int link : NO_LINK) {
            Check.due("frames(" + link + ", 1)", net.frames(link, 1), -1);
        }
        for (int end : NO_END) {
            Check.due("frames(0, " + end + ")", net.frames(0, end), -1);
        }
        Check.due("frames(4, 0)", net.frames(4, 0), 0);
        Check.due("frames(4, 1)", net.frames(4, 1), 0);
    }

    private static void framesNoneToEight() {
        CircuitNet net = new CircuitNet();
        Check.due("none", net.frames(3, 1), 0);
        net.call(3, 0);
        for (int n = 1; n <= 8; n++) {
            Check.due("frames", net.frames(3, 1), n);
            net.tick(4);
        }
        for (int n = 8; n >= 0; n--) {
            Check.due("frames", net.frames(3, 1), n);
            net.lose(3, 1);
        }
    }

    private static void frameNowhere() {
        CircuitNet net = new CircuitNet();
        net.call(0, 1);
        for (int link : NO_LINK) {
            Check.due("frame(" + link + ", 1, 0, 0)", net.frame(link, 1, 0, 0), -1);
        }
        for (int end : NO_END) {
            Check.due("frame(0, " + end + ", 0, 0)", net.frame(0, end, 0, 0), -1);
        }
        Check.due("frame(0, 1, 0, 0)", net.frame(0, 1, 0, 0), 2);
    }

    private static void noSuchFrame() {
        CircuitNet net = Nets.open(0, 1);
        for (int v = 0; v < 3; v++) {
            net.send(0, 3, v);
        }
        net.lose(0, 1);
        for (int w = 0; w < 8; w++) {
            Check.due("before the first", net.frame(0, 1, -1, w), -1);
            Check.due("the first", net.frame(0, 1, 0, w) >= 0, true);
            Check.due("the last", net.frame(0, 1, 1, w) >= 0, true);
            Check.due("after the last", net.frame(0, 1, 2, w), -1);
            Check.due("far before", net.frame(0, 1, Integer.MIN_VALUE, w), -1);
            Check.due("far after", net.frame(0, 1, Integer.MAX_VALUE, w), -1);
            Check.due("none at all", net.frame(0, 0, 0, w), -1);
        }
        net.tick(8);
        Check.due("the eighth", net.frame(0, 1, 7, 0), 2);
        Check.due("the ninth", net.frame(0, 1, 8, 0), -1);
    }

    private static void noSuchWord() {
        CircuitNet net = new CircuitNet();
        net.call(1, 3);
        int[] wrong = {-1, 8, 9, Integer.MIN_VALUE, Integer.MAX_VALUE};
        for (int w : wrong) {
            Check.due("word " + w, net.frame(1, 1, 0, w), -1);
        }
        Check.due("word 0", net.frame(1, 1, 0, 0), 2);
        Check.due("word 7", net.frame(1, 1, 0, 7), 1);
    }

    private static void wordsOfSet() {
        CircuitNet net = new CircuitNet();
        net.call(1, 3);
        net.tick(15);
        Nets.loseAll(net, 1, 1);
        net.tick(1);
        Nets.frameIs(net, 1, 1, 0, 0, 1, -1, -1, -1, -1, -1, -1);
    }

    private static void wordsOfSettled() {
        CircuitNet net = new CircuitNet();
        net.call(1, 3);
        net.tick(16);
        Nets.deliverLast(net, 1, 1);
        Nets.frameIs(net, 1, 0, 0, 1, 1, -1, -1, -1, -1, -1, -1);
    }

    private static void wordsOfReady() {
        CircuitNet net = new CircuitNet();
        net.call(1, 3);
        net.deliver(1, 1);
        Nets.frameIs(net, 1, 0, 0, 3, 0, -1, 1, -1, -1, -1, -1);
    }

    private static void wordsOfInfo() {
        CircuitNet net = new CircuitNet();
        net.call(1, 3);
        Nets.frameIs(net, 1, 1, 0, 2, 0, 0, 0, 0, 3, 3, 1);
        Nets.settle(net);
        net.answer(3, 1);
        Nets.frameIs(net, 3, 1, 0, 2, 0, 0, 1, 1, 1, 0, 0);
        net.send(3, 1, 255);
        Nets.frameIs(net, 3, 1, 1, 2, 0, 1, 1, 4, 1, 0, 255);
        net.reset(3, 1);
        Nets.frameIs(net, 3, 1, 2, 2, 0, 2, 1, 6, 1, 0, 0);
        net.clear(3, 1);
        Nets.frameIs(net, 3, 1, 3, 2, 0, 3, 1, 2, 1, 0, 0);
    }

    private static void rowNowhere() {
        CircuitNet net = new CircuitNet();
        net.call(0, 1);
        for (int link : NO_LINK) {
            Check.due("row(" + link + ", 0)", net.row(link, 0), -1);
        }
        for (int end : NO_END) {
            Check.due("row(0, " + end + ")", net.row(0, end), -1);
        }
        Check.due("row(4, 1)", net.row(4, 1), 0);
    }

    private static void rowOfBothKinds() {
        CircuitNet net = Nets.open(0, 1);
        Check.due("empty", net.row(0, 0), 0);
        net.send(0, 3, 1);
        net.send(0, 3, 1);
        net.send(0, 3, 1);
        net.call(0, 1);
        Check.due("four that were sent", net.row(0, 0), 4);
        net.call(0, 1);
        Check.due("and one that waits", net.row(0, 0), 5);
        Nets.settle(net);
        Check.due("empty again", net.row(0, 0), 0);
    }

    private static void epochNowhere() {
        CircuitNet net = new CircuitNet();
        for (int link : NO_LINK) {
            Check.due("epoch(" + link + ", 0)", net.epoch(link, 0), -1);
        }
        for (int end : NO_END) {
            Check.due("epoch(0, " + end + ")", net.epoch(0, end), -1);
        }
        net.call(0, 1);
        net.tick(16);
        Check.due("epoch(0, 0)", net.epoch(0, 0), 1);
        Check.due("epoch(0, 1)", net.epoch(0, 1), 0);
        Check.due("epoch(1, 0)", net.epoch(1, 0), 0);
    }

    private static void upNowhere() {
        CircuitNet net = new CircuitNet();
        for (int link : NO_LINK) {
            Check.due("up(" + link + ", 0)", net.up(link, 0), false);
        }
        for (int end : NO_END) {
            Check.due("up(0, " + end + ")", net.up(0, end), false);
        }
        net.call(0, 1);
        net.tick(16);
        Check.due("SETTING", net.up(0, 0), false);
        Check.due("the other end", net.up(0, 1), true);
    }

    private static void busyNowhere() {
        CircuitNet net = new CircuitNet();
        for (int link : NO_LINK) {
            Check.due("busy(" + link + ", 0)", net.busy(link, 0), -1);
        }
        for (int end : NO_END) {
            Check.due("busy(0, " + end + ")", net.busy(0, end), -1);
        }
        Check.due("busy(4, 1)", net.busy(4, 1), 0);
    }

    private static void busyNoneToThree() {
        CircuitNet net = new CircuitNet();
        for (int n = 0; n <= 3; n++) {
            Check.due("of the terminal", net.busy(0, 0), n);
            Check.due("of the switch", net.busy(0, 1), n);
            Check.due("of the trunk", net.busy(4, 0), n);
            Check.due("of the trunk", net.busy(4, 1), n);
            net.call(0, 2);
            Nets.settle(net);
        }
        net.answer(2, 1);
        net.clear(2, 2);
        Check.due("OPEN, CLEARING and RINGING", net.busy(2, 0), 3);
    }

    /** Values go to and fro until 510 calls were made; the last two still answer rightly. */
    private static void longLife() {
        CircuitNet net = new CircuitNet();
        net.call(0, 2);
        forth(net);
        net.answer(2, 1);
        back(net);
        int calls = 14;
        int values = 0;
        for (; calls + 14 <= 510; calls += 14) {
            Check.due("number", net.send(0, 3, values), values % 8);
            forth(net);
            Check.due("value", net.read(2, 1), values);
            back(net);
            values++;
        }
        for (; calls < 510; calls++) {
            net.tick(1);
        }
        Check.due("the 511th call", net.state(0, 3), 3);
        Check.due("the 512th call", net.send(0, 3, 1), values % 8);
    }

    private static void forth(CircuitNet net) {
        net.deliver(0, 1);
        net.deliver(0, 0);
        net.deliver(4, 1);
        net.deliver(4, 0);
        net.deliver(2, 0);
        net.deliver(2, 1);
    }

    private static void back(CircuitNet net) {
        net.deliver(2, 1);
        net.deliver(2, 0);
        net.deliver(4, 0);
        net.deliver(4, 1);
        net.deliver(0, 0);
        net.deliver(0, 1);
    }

    /** End 1 of link 4 hears nothing, while three circuits put all that they may into that row. */
    private static void longRow() {
        CircuitNet net = new CircuitNet();
        int[][] near = {{0, 3}, {0, 2}, {1, 3}};
        int[][] far = {{2, 1}, {3, 1}, {2, 2}};
        openThree(net, near, far);
        for (int[] f : far) {
            net.reset(f[0], f[1]);
            net.deliver(f[0], 1);
        }
        for (int[] n : near) {
            for (int v = 0; v < 3; v++) {
                Check.due("read", net.read(n[0], n[1]), v);
                Check.due("send", net.send(n[0], n[1], v), v);
                overTheLink(net, n[0]);
            }
        }
        Check.due("TAKEN and DATA", net.row(4, 0), 18);
        Nets.deliverAll(net, 4, 0);
        for (int[] n : near) {
            overTheLink(net, n[0]);
            for (int v = 0; v < 3; v++) {
                Check.due("send after AGREED", net.send(n[0], n[1], v), v);
                overTheLink(net, n[0]);
            }
            net.reset(n[0], n[1]);
            net.clear(n[0], n[1]);
            overTheLink(net, n[0]);
        }
        Check.due("and AGREED, DATA, RESET and CLEAR", net.row(4, 0), 36);
        Nets.wordsAre(net, 4, 1, 0, "2 2 2 2 3 3 3");
        Nets.settle(net);
        Check.due("all went over", net.row(4, 0), 0);
        Check.due("and was cleared", net.busy(4, 0) + net.busy(2, 0) + net.busy(3, 0), 0);
    }

    /** Three circuits over link 4, at whose near ends three values each are unread. */
    private static void openThree(CircuitNet net, int[][] near, int[][] far) {
        for (int i = 0; i < 3; i++) {
            Check.due("call", net.call(near[i][0], far[i][0]), near[i][1]);
            Nets.settle(net);
            Check.due("answer", net.answer(far[i][0], far[i][1]), true);
            Nets.settle(net);
            for (int v = 0; v < 3; v++) {
                net.send(far[i][0], far[i][1], v);
            }
            Nets.settle(net);
        }
    }

    private static void overTheLink(CircuitNet net, int p) {
        for (int i = 0; i < 4; i++) {
            Nets.deliverAll(net, p, 1);
            Nets.deliverAll(net, p, 0);
        }
    }

    /** The epoch grows as often as 512 calls allow, and ends settle each time. */
    private static void mostTicks() {
        CircuitNet net = new CircuitNet();
        for (int i = 1; i <= 60; i++) {
            Check.due("call", net.call(0, 1), 3);
            net.tick(15);
            for (int k = 0; k < 4; k++) {
                net.lose(0, 1);
            }
            net.tick(1);
            net.deliver(0, 1);
            net.deliver(0, 0);
        }
        Check.due("epoch", net.epoch(0, 0), 60);
        Check.due("of the other end", net.epoch(0, 1), 60);
        Check.due("UP", net.up(0, 0), true);
    }
}
