/** The edges of promises 1 to 10: each refusal of a call that changes the net, by itself. */
public final class CallEdgeTest {
    private static final int[] NO_TERMINAL = {-1, 4, Integer.MIN_VALUE, Integer.MAX_VALUE};
    private static final int[] NO_CHANNEL = {-1, 0, 4, Integer.MIN_VALUE, Integer.MAX_VALUE};
    private static final int[] NO_LINK = {-1, 5, Integer.MIN_VALUE, Integer.MAX_VALUE};
    private static final int[] NO_END = {-1, 2, Integer.MIN_VALUE, Integer.MAX_VALUE};

    public static void main(String[] args) {
        Check.edge("Promise 1: Nothing under way, all ends UP, all channels IDLE or FREE.",
                CallEdgeTest::newObject);
        call();
        Check.edge("Promise 3: false when there is no such terminal or channel",
                CallEdgeTest::answerNowhere);
        Check.edge("Promise 3: or it is not RINGING", CallEdgeTest::answerElsewhere);
        Check.edge("Promise 4: false when there is no such terminal or channel",
                CallEdgeTest::clearNowhere);
        Check.edge("Promise 4: or it is IDLE or CLEARING", CallEdgeTest::clearUnused);
        Check.edge("Promise 4: Answers true (in the four other states)", CallEdgeTest::clearUsed);
        Check.edge("Promise 5: false when there is no such terminal or channel",
                CallEdgeTest::resetNowhere);
        Check.edge("Promise 5: or it is not OPEN", CallEdgeTest::resetElsewhere);
        send();
        Check.edge("Promise 7: NONE when there is no such terminal or channel", CallEdgeTest::readNowhere);
        Check.edge("Promise 7: it is not OPEN", CallEdgeTest::readElsewhere);
        Check.edge("Promise 7: or there is none", CallEdgeTest::readNone);
        Check.edge("Promise 7: TAKEN with GOT is put. (GOT as it is then.)", CallEdgeTest::takenWithGot);
        frames();
        ticks();
        Check.finish();
    }

    private static void call() {
        Check.edge("Promise 2: puts CALL on its greatest IDLE channel", CallEdgeTest::callGreatestIdle);
        Check.edge("Promise 2: NONE when there is no such terminal p or to", CallEdgeTest::callNowhere);
        Check.edge("Promise 2: (terminals 0 and 3 are there)", CallEdgeTest::callFirstAndLast);
        Check.edge("Promise 2: both are the same", CallEdgeTest::callItself);
        Check.edge("Promise 2: p's end is not UP", CallEdgeTest::callWhileSetting);
        Check.edge("Promise 2: or no channel of it is IDLE", CallEdgeTest::callWithoutChannel);
    }

    private static void send() {
        Check.edge("Promise 6: NONE when there is no such terminal or channel", CallEdgeTest::sendNowhere);
        Check.edge("Promise 6: v is not 0 .. 255", CallEdgeTest::sendWrongValue);
        Check.edge("Promise 6: or the channel is not OPEN", CallEdgeTest::sendElsewhere);
        Check.edge("Promise 6: FULL when OWN is SURE + 3 (modulo 8)", CallEdgeTest::sendFull);
        Check.edge("The refusals of a call are tested in the order in which they stand there",
                CallEdgeTest::sendRefusedInOrder);
    }

    private static void frames() {
        Check.edge("Promise 8: false when there is no such link or end", CallEdgeTest::deliverNowhere);
        Check.edge("Promise 8: or no frame", CallEdgeTest::deliverNoFrame);
        Check.edge("Promise 8: The first frame under way", CallEdgeTest::deliverTheFirst);
        Check.edge("Promise 9: false when there is no such link or end", CallEdgeTest::loseNowhere);
        Check.edge("Promise 9: or no frame", CallEdgeTest::loseNoFrame);
        Check.edge("Promise 9: The first frame under way", CallEdgeTest::loseTheFirst);
    }

    private static void ticks() {
        Check.edge("Promise 10: false when n is not 1 .. 40", CallEdgeTest::tickTooFewOrMany);
        Check.edge("Promise 10: n ticks (1 and 40)", CallEdgeTest::tickFewestAndMost);
        Check.edge("Promise 10: each for all ends (tick(n) is n times tick(1))",
                CallEdgeTest::ticksAddUp);
        Check.edge("Promise 10: link 0 end 0, link 0 end 1, link 1 end 0, ..",
                CallEdgeTest::ticksGoRound);
        Check.edge("Promise 10: link 0 end 0, link 0 end 1, .. (two that fail in one tick)",
                CallEdgeTest::twoFailInOneTick);
    }

    /** Terminal 0: channel 3 in that state, channels 1 and 2 IDLE; frames are under way. */
    private static CircuitNet inState(int state) {
        CircuitNet net = state >= 3 ? Nets.open(0, 1) : new CircuitNet();
        if (state == 1) {
            net.call(0, 1);
        } else if (state == 2) {
            ring(net);
        } else if (state == 4) {
            net.reset(0, 3);
        } else if (state == 5) {
            net.clear(0, 3);
        }
        Check.due("state", net.state(0, 3), state);
        return net;
    }

    /** Three calls, of which the one on channel 3 is left. */
    private static void ring(CircuitNet net) {
        net.call(1, 0);
        net.call(1, 0);
        net.call(1, 0);
        Nets.settle(net);
        net.clear(0, 1);
        net.clear(0, 2);
        Nets.settle(net);
    }

    private static void same(CircuitNet net, String before, String what) {
        Check.due("what can be seen after " + what, Nets.picture(net), before);
    }

    private static void newObject() {
        CircuitNet net = new CircuitNet();
        for (int link = 0; link < 5; link++) {
            for (int end = 0; end < 2; end++) {
                Check.due("frames", net.frames(link, end), 0);
                Check.due("row", net.row(link, end), 0);
                Check.due("epoch", net.epoch(link, end), 0);
                Check.due("up", net.up(link, end), true);
                Check.due("busy", net.busy(link, end), 0);
                Check.due("deliver", net.deliver(link, end), false);
                Check.due("lose", net.lose(link, end), false);
            }
        }
        for (int p = 0; p < 4; p++) {
            for (int c = 1; c <= 3; c++) {
                Check.due("state", net.state(p, c), 0);
                Check.due("peer", net.peer(p, c), -1);
                Check.due("unread", net.unread(p, c), 0);
            }
        }
        Check.due("tick", net.tick(40), true);
        same(net, Nets.picture(new CircuitNet()), "ticks at rest");
    }

    private static void callGreatestIdle() {
        CircuitNet net = new CircuitNet();
        Check.due("first", net.call(0, 1), 3);
        Check.due("second", net.call(0, 1), 2);
        Check.due("third", net.call(0, 1), 1);
        Nets.settle(net);
        net.clear(0, 1);
        net.clear(0, 2);
        Nets.settle(net);
        Check.due("2 and 1 are IDLE", net.call(0, 1), 2);
        Check.due("1 is IDLE", net.call(0, 1), 1);
        Nets.settle(net);
        net.clear(0, 3);
        net.clear(0, 1);
        Nets.settle(net);
        Check.due("3 and 1 are IDLE", net.call(0, 2), 3);
        Check.due("CALLING", net.state(0, 3), 1);
        Check.due("peer", net.peer(0, 3), 2);
        CircuitNet rung = new CircuitNet();
        ring(rung);
        Check.due("one that rings is not IDLE", rung.call(0, 1), 2);
    }

    private static void callNowhere() {
        CircuitNet net = inState(3);
        String before = Nets.picture(net);
        for (int p : NO_TERMINAL) {
            Check.due("call(" + p + ", 1)", net.call(p, 1), -1);
            Check.due("call(1, " + p + ")", net.call(1, p), -1);
            Check.due("call(" + p + ", " + p + ")", net.call(p, p), -1);
        }
        same(net, before, "calls of no terminal");
    }

    private static void callFirstAndLast() {
        CircuitNet net = new CircuitNet();
        Check.due("call(0, 3)", net.call(0, 3), 3);
        Check.due("call(3, 0)", net.call(3, 0), 3);
        Check.due("peer of 0", net.peer(0, 3), 3);
        Check.due("peer of 3", net.peer(3, 3), 0);
    }

    private static void callItself() {
        CircuitNet net = new CircuitNet();
        String before = Nets.picture(net);
        for (int p = 0; p < 4; p++) {
            Check.due("call of itself", net.call(p, p), -1);
        }
        same(net, before, "calls of oneself");
    }

    private static void callWhileSetting() {
        for (int p = 0; p < 4; p++) {
            CircuitNet net = new CircuitNet();
            net.call(p, (p + 1) % 4);
            net.tick(16);
            Check.due("SETTING", net.up(p, 0), false);
            String before = Nets.picture(net);
            Check.due("call by " + p, net.call(p, (p + 1) % 4), -1);
            same(net, before, "a call while SETTING");
            for (int q = 0; q < 4; q++) {
                Check.due("the end of the called does not count", q == p || net.call(q, p) == 3, true);
            }
        }
    }

    private static void callWithoutChannel() {
        CircuitNet net = inState(3);
        Check.due("the last but one", net.call(0, 1), 2);
        Check.due("the last", net.call(0, 1), 1);
        net.clear(0, 3);
        String before = Nets.picture(net);
        Check.due("OPEN, CALLING and CLEARING are not IDLE", net.call(0, 1), -1);
        same(net, before, "a call without a channel");
    }

    private static void answerNowhere() {
        CircuitNet net = inState(2);
        String before = Nets.picture(net);
        for (int p : NO_TERMINAL) {
            Check.due("answer(" + p + ", 3)", net.answer(p, 3), false);
        }
        for (int c : NO_CHANNEL) {
            Check.due("answer(0, " + c + ")", net.answer(0, c), false);
        }
        same(net, before, "answers nowhere");
        Check.due("answer", net.answer(0, 3), true);
    }

    private static void answerElsewhere() {
        for (int state = 0; state <= 5; state++) {
            CircuitNet net = inState(state);
            String before = Nets.picture(net);
            Check.due("answer in state " + state, net.answer(0, 3), state == 2);
            if (state != 2) {
                same(net, before, "answer in state " + state);
            }
        }
        CircuitNet twice = inState(2);
        Check.due("answer", twice.answer(0, 3), true);
        Check.due("answer again", twice.answer(0, 3), false);
        Check.due("ACCEPT was put once", twice.row(0, 0), 1);
    }

    private static void clearNowhere() {
        CircuitNet net = inState(3);
        String before = Nets.picture(net);
        for (int p : NO_TERMINAL) {
            Check.due("clear(" + p + ", 3)", net.clear(p, 3), false);
        }
        for (int c : NO_CHANNEL) {
            Check.due("clear(0, " + c + ")", net.clear(0, c), false);
        }
        same(net, before, "clear nowhere");
    }

    private static void clearUnused() {
        for (int state = 0; state <= 5; state += 5) {
            CircuitNet net = inState(state);
            String before = Nets.picture(net);
            Check.due("clear in state " + state, net.clear(0, 3), false);
            same(net, before, "clear in state " + state);
        }
    }

    private static void clearUsed() {
        for (int state = 1; state <= 4; state++) {
            CircuitNet net = inState(state);
            int row = net.row(0, 0);
            Check.due("clear in state " + state, net.clear(0, 3), true);
            Check.due("CLEARING", net.state(0, 3), 5);
            Check.due("peer", net.peer(0, 3), -1);
            Check.due("CLEAR is put", net.row(0, 0), row + 1);
            Nets.settle(net);
            Check.due("IDLE in the end", net.state(0, 3), 0);
        }
    }

    private static void resetNowhere() {
        CircuitNet net = inState(3);
        String before = Nets.picture(net);
        for (int p : NO_TERMINAL) {
            Check.due("reset(" + p + ", 3)", net.reset(p, 3), false);
        }
        for (int c : NO_CHANNEL) {
            Check.due("reset(0, " + c + ")", net.reset(0, c), false);
        }
        same(net, before, "reset nowhere");
    }

    private static void resetElsewhere() {
        for (int state = 0; state <= 5; state++) {
            CircuitNet net = inState(state);
            String before = Nets.picture(net);
            Check.due("reset in state " + state, net.reset(0, 3), state == 3);
            if (state != 3) {
                same(net, before, "reset in state " + state);
            }
        }
    }

    private static void sendNowhere() {
        CircuitNet net = inState(3);
        String before = Nets.picture(net);
        for (int p : NO_TERMINAL) {
            Check.due("send(" + p + ", 3, 1)", net.send(p, 3, 1), -1);
        }
        for (int c : NO_CHANNEL) {
            Check.due("send(0, " + c + ", 1)", net.send(0, c, 1), -1);
        }
        same(net, before, "send nowhere");
        Check.due("OWN did not grow", net.send(0, 3, 1), 0);
    }

    private static void sendWrongValue() {
        CircuitNet net = inState(3);
        String before = Nets.picture(net);
        int[] wrong = {-1, 256, Integer.MIN_VALUE, Integer.MAX_VALUE};
        for (int v : wrong) {
            Check.due("send(0, 3, " + v + ")", net.send(0, 3, v), -1);
        }
        same(net, before, "values that are none");
        Check.due("the least value", net.send(0, 3, 0), 0);
        Check.due("the greatest value", net.send(0, 3, 255), 1);
        Nets.settle(net);
        Check.due("the least value comes", net.read(1, 1), 0);
        Check.due("the greatest value comes", net.read(1, 1), 255);
    }

    private static void sendElsewhere() {
        for (int state = 0; state <= 5; state++) {
            CircuitNet net = inState(state);
            String before = Nets.picture(net);
            Check.due("send in state " + state, net.send(0, 3, 1), state == 3 ? 0 : -1);
            if (state != 3) {
                same(net, before, "send in state " + state);
            }
        }
    }

    private static void sendFull() {
        CircuitNet net = inState(3);
        Check.due("first", net.send(0, 3, 1), 0);
        Check.due("second", net.send(0, 3, 2), 1);
        Check.due("third", net.send(0, 3, 3), 2);
        String before = Nets.picture(net);
        Check.due("fourth", net.send(0, 3, 4), -2);
        Check.due("fourth, again", net.send(0, 3, 4), -2);
        same(net, before, "FULL");
        Nets.settle(net);
        Check.due("READY is not TAKEN", net.send(0, 3, 4), -2);
        net.read(1, 1);
        Nets.settle(net);
        Check.due("OWN did not grow meanwhile", net.send(0, 3, 4), 3);
        Check.due("full again", net.send(0, 3, 5), -2);
    }

    private static void sendRefusedInOrder() {
        CircuitNet net = inState(3);
        for (int i = 0; i < 3; i++) {
            net.send(0, 3, i);
        }
        Check.due("FULL", net.send(0, 3, 1), -2);
        Check.due("no such terminal", net.send(4, 3, 1), -1);
        Check.due("no such channel", net.send(0, 4, 1), -1);
        Check.due("a value too small", net.send(0, 3, -1), -1);
        Check.due("a value too large", net.send(0, 3, 256), -1);
        net.clear(0, 3);
        Check.due("not OPEN any more", net.send(0, 3, 1), -1);
    }

    private static void readNowhere() {
        CircuitNet net = inState(3);
        net.send(1, 1, 7);
        Nets.settle(net);
        String before = Nets.picture(net);
        for (int p : NO_TERMINAL) {
            Check.due("read(" + p + ", 3)", net.read(p, 3), -1);
        }
        for (int c : NO_CHANNEL) {
            Check.due("read(0, " + c + ")", net.read(0, c), -1);
        }
        same(net, before, "read nowhere");
        Check.due("read", net.read(0, 3), 7);
    }

    private static void readElsewhere() {
        for (int state = 0; state <= 5; state++) {
            CircuitNet net = inState(state);
            String before = Nets.picture(net);
            Check.due("read in state " + state, net.read(0, 3), -1);
            same(net, before, "read in state " + state);
        }
        for (int state = 4; state <= 5; state++) {
            CircuitNet net = inState(3);
            net.send(1, 1, 7);
            Nets.settle(net);
            Check.due("a value is there", net.unread(0, 3), 1);
            Check.due("left", state == 4 ? net.reset(0, 3) : net.clear(0, 3), true);
            Check.due("read in state " + state, net.read(0, 3), -1);
        }
    }

    private static void readNone() {
        CircuitNet net = inState(3);
        String before = Nets.picture(net);
        Check.due("read", net.read(0, 3), -1);
        same(net, before, "a read of nothing");
        net.send(1, 1, 0);
        Check.due("it did not come yet", net.read(0, 3), -1);
        Nets.settle(net);
        Check.due("the value 0 is one", net.read(0, 3), 0);
        Check.due("TAKEN tells of one", net.frame(0, 1, 0, 6), 1);
        before = Nets.picture(net);
        Check.due("no second", net.read(0, 3), -1);
        same(net, before, "a second read");
    }

    private static void takenWithGot() {
        CircuitNet net = inState(3);
        net.send(1, 1, 5);
        net.send(1, 1, 6);
        Nets.settle(net);
        net.read(0, 3);
        Nets.frameIs(net, 0, 1, 0, 2, 0, 1, 3, 5, 3, 1, 0);
        net.read(0, 3);
        Nets.frameIs(net, 0, 1, 1, 2, 0, 2, 3, 5, 3, 2, 0);
    }

    private static void deliverNowhere() {
        CircuitNet net = inState(1);
        String before = Nets.picture(net);
        for (int link : NO_LINK) {
            Check.due("deliver(" + link + ", 1)", net.deliver(link, 1), false);
        }
        for (int end : NO_END) {
            Check.due("deliver(0, " + end + ")", net.deliver(0, end), false);
        }
        same(net, before, "deliver nowhere");
    }

    private static void deliverNoFrame() {
        CircuitNet net = inState(1);
        String before = Nets.picture(net);
        for (int link = 0; link < 5; link++) {
            Check.due("deliver(" + link + ", 0)", net.deliver(link, 0), false);
        }
        same(net, before, "deliver without a frame");
        Check.due("the only frame", net.deliver(0, 1), true);
        Check.due("no more", net.deliver(0, 1), false);
    }

    private static void deliverTheFirst() {
        CircuitNet net = new CircuitNet();
        net.call(0, 1);
        net.call(0, 2);
        Check.due("deliver", net.deliver(0, 1), true);
        Check.due("CALL of 1 went on", net.frames(1, 0), 1);
        Check.due("CALL of 2 did not", net.frames(4, 1), 0);
        Nets.wordsAre(net, 0, 1, 6, "2");
    }

    private static void loseNowhere() {
        CircuitNet net = inState(1);
        String before = Nets.picture(net);
        for (int link : NO_LINK) {
            Check.due("lose(" + link + ", 1)", net.lose(link, 1), false);
        }
        for (int end : NO_END) {
            Check.due("lose(0, " + end + ")", net.lose(0, end), false);
        }
        same(net, before, "lose nowhere");
    }

    private static void loseNoFrame() {
        CircuitNet net = inState(1);
        String before = Nets.picture(net);
        for (int link = 0; link < 5; link++) {
            Check.due("lose(" + link + ", 0)", net.lose(link, 0), false);
        }
        same(net, before, "lose without a frame");
        Check.due("the only frame", net.lose(0, 1), true);
        Check.due("no more", net.lose(0, 1), false);
    }

    private static void loseTheFirst() {
        CircuitNet net = new CircuitNet();
        net.call(0, 1);
        net.call(0, 2);
        Check.due("lose", net.lose(0, 1), true);
        Nets.wordsAre(net, 0, 1, 6, "2");
        Check.due("nothing arrived", net.busy(0, 1), 0);
        Check.due("nothing is answered", net.frames(0, 0), 0);
        Check.due("the row keeps both", net.row(0, 0), 2);
    }

    private static void tickTooFewOrMany() {
        CircuitNet net = inState(1);
        net.tick(3);
        String before = Nets.picture(net);
        int[] wrong = {0, 41, -1, Integer.MIN_VALUE, Integer.MAX_VALUE};
        for (int n : wrong) {
            Check.due("tick(" + n + ")", net.tick(n), false);
        }
        same(net, before, "ticks that are refused");
        net.tick(1);
        Check.due("the clock stood still at 3", net.frames(0, 1), 2);
        Check.due("and is at 0 now", net.frame(0, 1, 1, 0), 2);
    }

    private static void tickFewestAndMost() {
        CircuitNet net = inState(1);
        Check.due("tick(1)", net.tick(1), true);
        Check.due("tick(2)", net.tick(2), true);
        Check.due("three ticks so far", net.frames(0, 1), 1);
        Check.due("tick(1)", net.tick(1), true);
        Check.due("the fourth", net.frames(0, 1), 2);
        CircuitNet most = inState(1);
        Check.due("tick(40)", most.tick(40), true);
        Nets.loseAll(most, 0, 1);
        most.tick(3);
        Check.due("43 ticks", most.frames(0, 1), 0);
        most.tick(1);
        Check.due("44 ticks", most.frames(0, 1), 1);
    }

    private static CircuitNet muchUnconfirmed() {
        CircuitNet net = Nets.open(0, 2);
        net.call(1, 0);
        net.call(1, 3);
        net.deliver(1, 1);
        net.send(2, 1, 1);
        net.deliver(2, 1);
        return net;
    }

    private static void ticksAddUp() {
        for (int n = 1; n <= 40; n++) {
            CircuitNet one = muchUnconfirmed();
            CircuitNet other = muchUnconfirmed();
            one.tick(n);
            for (int i = 0; i < n; i++) {
                other.tick(1);
            }
            same(one, Nets.picture(other), "tick(" + n + ")");
        }
    }

    /** A failing end puts CLEAR at another, which counts this very tick only if its turn comes later. */
    private static void ticksGoRound() {
        CircuitNet later = Nets.open(0, 2);
        later.send(2, 1, 1);
        later.deliver(2, 1);
        later.deliver(4, 0);
        Nets.deliverAll(later, 2, 0);
        Nets.deliverAll(later, 4, 1);
        later.tick(16);
        Check.due("link 0 end 1 failed", later.epoch(0, 1), 1);
        Check.due("link 4 end 0 puts CLEAR", later.frames(4, 1), 1);
        later.tick(2);
        Check.due("and its clock is at 3", later.frames(4, 1), 1);
        later.tick(1);
        Check.due("now at 4", later.frames(4, 1), 2);
        CircuitNet earlier = Nets.open(0, 1);
        earlier.send(0, 3, 1);
        earlier.deliver(0, 1);
        earlier.deliver(0, 0);
        earlier.tick(16);
        Check.due("link 1 end 1 failed", earlier.epoch(1, 1), 1);
        Check.due("link 0 end 1 puts CLEAR", earlier.frames(0, 0), 1);
        earlier.tick(3);
        Check.due("and its clock is at 3", earlier.frames(0, 0), 1);
        earlier.tick(1);
        Check.due("now at 4", earlier.frames(0, 0), 2);
    }

    /** The first that fails puts CLEAR at the second, which sends it and then fails itself. */
    private static void twoFailInOneTick() {
        CircuitNet net = Nets.open(0, 1);
        net.send(0, 3, 1);
        net.send(1, 1, 2);
        net.deliver(0, 1);
        net.deliver(1, 1);
        Nets.loseAll(net, 0, 1);
        Nets.loseAll(net, 1, 1);
        net.tick(15);
        Nets.loseAll(net, 0, 0);
        Nets.loseAll(net, 1, 0);
        net.tick(1);
        Nets.wordsAre(net, 0, 0, 0, "0");
        Nets.wordsAre(net, 1, 0, 0, "2 0");
        Nets.wordsAre(net, 1, 0, 1, "0 1");
        Nets.wordsAre(net, 1, 0, 4, "2 -1");
        Check.due("rows", net.row(0, 1) + net.row(1, 1), 0);
        Check.due("busy", net.busy(0, 1) + net.busy(1, 1), 0);
    }
}
