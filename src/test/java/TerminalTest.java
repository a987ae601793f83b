/** Promises 1 to 7 and 11 to 13: what terminals do, and what arrives at them. */
public final class TerminalTest {
    public static void main(String[] args) {
        newObject();
        callTakesTheGreatestIdle();
        callWhileSetting();
        answering();
        clearing();
        clearsThatCross();
        callsThatCross();
        resetting();
        resetsThatCross();
        window();
        numbersWrap();
        valuesInOrder();
        unreadGoes();
        circuitsBeginAnew();
        manyCircuits();
        Check.finish();
    }

    private static void newObject() {
        CircuitNet net = new CircuitNet();
        for (int link = 0; link < 5; link++) {
            for (int end = 0; end < 2; end++) {
                Check.due("frames at first", net.frames(link, end), 0);
                Check.due("row at first", net.row(link, end), 0);
                Check.due("epoch at first", net.epoch(link, end), 0);
                Check.due("up at first", net.up(link, end), true);
                Check.due("busy at first", net.busy(link, end), 0);
            }
        }
        for (int p = 0; p < 4; p++) {
            for (int c = 1; c <= 3; c++) {
                Check.due("state at first", net.state(p, c), 0);
                Check.due("peer at first", net.peer(p, c), -1);
                Check.due("unread at first", net.unread(p, c), 0);
            }
        }
    }

    private static void callTakesTheGreatestIdle() {
        CircuitNet net = new CircuitNet();
        Check.due("first call", net.call(2, 0), 3);
        Check.due("second call", net.call(2, 1), 2);
        Check.due("third call", net.call(2, 3), 1);
        Check.due("fourth call", net.call(2, 3), -1);
        Check.due("row", net.row(2, 0), 3);
        Check.due("state", net.state(2, 2), 1);
        Check.due("peer", net.peer(2, 2), 1);
        Nets.frameIs(net, 2, 1, 0, 2, 0, 0, 0, 0, 3, 0, 2);
        Nets.frameIs(net, 2, 1, 1, 2, 0, 1, 0, 0, 2, 1, 2);
        Nets.frameIs(net, 2, 1, 2, 2, 0, 2, 0, 0, 1, 3, 2);
        Nets.settle(net);
        Check.due("clear", net.clear(2, 2), true);
        Nets.settle(net);
        Check.due("the middle channel is taken again", net.call(2, 0), 2);
    }

    private static void callWhileSetting() {
        CircuitNet net = new CircuitNet();
        net.call(0, 1);
        net.tick(16);
        Check.due("state after the end failed", net.state(0, 3), 0);
        Check.due("call while SETTING", net.call(0, 1), -1);
        Check.due("nothing was put", net.row(0, 0), 0);
        Check.due("another terminal calls", net.call(1, 0), 3);
    }

    private static void answering() {
        CircuitNet net = new CircuitNet();
        net.call(3, 2);
        Check.due("answer of the caller", net.answer(3, 3), false);
        Nets.settle(net);
        Check.due("state of the called", net.state(2, 1), 2);
        Check.due("peer of the called", net.peer(2, 1), 3);
        Check.due("send while RINGING", net.send(2, 1, 5), -1);
        Check.due("read while RINGING", net.read(2, 1), -1);
        Check.due("reset while RINGING", net.reset(2, 1), false);
        Check.due("unread while RINGING", net.unread(2, 1), 0);
        Check.due("send while CALLING", net.send(3, 3, 5), -1);
        Check.due("reset while CALLING", net.reset(3, 3), false);
        Check.due("answer", net.answer(2, 1), true);
        Check.due("state after it", net.state(2, 1), 3);
        Check.due("answer again", net.answer(2, 1), false);
        Check.due("the called may send at once", net.send(2, 1, 5), 0);
        Nets.frameIs(net, 2, 1, 0, 2, 0, 0, 1, 1, 1, 0, 0);
        Nets.frameIs(net, 2, 1, 1, 2, 0, 1, 1, 4, 1, 0, 5);
        Nets.settle(net);
        Check.due("state of the caller", net.state(3, 3), 3);
        Check.due("its value", net.read(3, 3), 5);
    }

    private static void clearing() {
        CircuitNet net = Nets.open(0, 2);
        Check.due("clear of an IDLE channel", net.clear(0, 1), false);
        Check.due("clear", net.clear(0, 3), true);
        Check.due("state", net.state(0, 3), 5);
        Check.due("peer", net.peer(0, 3), -1);
        Check.due("clear again", net.clear(0, 3), false);
        Check.due("send while CLEARING", net.send(0, 3, 1), -1);
        Check.due("row", net.row(0, 0), 1);
        Nets.frameIs(net, 0, 1, 0, 2, 0, 1, 1, 2, 3, 0, 0);
        Nets.settle(net);
        Check.due("state of the one", net.state(0, 3), 0);
        Check.due("state of the other", net.state(2, 1), 0);
        for (int link = 0; link < 5; link++) {
            Check.due("busy", net.busy(link, 0) + net.busy(link, 1), 0);
        }
        CircuitNet ringing = new CircuitNet();
        ringing.call(0, 1);
        Nets.settle(ringing);
        Check.due("clear while RINGING", ringing.clear(1, 1), true);
        Nets.settle(ringing);
        Check.due("the caller is IDLE", ringing.state(0, 3), 0);
        CircuitNet calling = new CircuitNet();
        calling.call(0, 1);
        Check.due("clear while CALLING", calling.clear(0, 3), true);
        Nets.settle(calling);
        Check.due("neither is called", calling.state(0, 3) + calling.state(1, 1), 0);
        CircuitNet resetting = Nets.open(0, 1);
        resetting.reset(0, 3);
        Check.due("clear while RESETTING", resetting.clear(0, 3), true);
        Check.due("its state", resetting.state(0, 3), 5);
    }

    private static void clearsThatCross() {
        CircuitNet net = Nets.open(0, 1);
        net.clear(0, 3);
        net.clear(1, 1);
        net.deliver(0, 1);
        Nets.frameIs(net, 0, 0, 1, 2, 0, 1, 2, 3, 3, 0, 0);
        Nets.frameIs(net, 1, 0, 0, 2, 0, 1, 1, 2, 1, 0, 0);
        net.deliver(1, 0);
        Check.due("CLEAR makes CLEARING IDLE", net.state(1, 1), 0);
        Check.due("without CLEARED", net.row(1, 0), 1);
        net.deliver(1, 1);
        Check.due("CLEAR makes the switch's channel FREE", net.busy(1, 1), 0);
        Check.due("without CLEARED, too", net.row(1, 1), 1);
        Nets.settle(net);
        Check.due("the other one is IDLE", net.state(0, 3), 0);
        Check.due("busy", net.busy(0, 1), 0);
    }

    private static void callsThatCross() {
        CircuitNet net = new CircuitNet();
        net.call(0, 2);
        net.call(0, 2);
        net.call(0, 2);
        net.call(1, 0);
        net.deliver(1, 1);
        net.deliver(0, 0);
        Check.due("CALL on a CALLING channel: nothing", net.state(0, 1), 1);
        Check.due("its peer", net.peer(0, 1), 2);
        Check.due("nothing is put", net.row(0, 0), 3);
    }

    private static void resetting() {
        CircuitNet net = Nets.open(0, 1);
        net.send(0, 3, 1);
        net.send(1, 1, 2);
        Nets.settle(net);
        net.send(0, 3, 3);
        Check.due("unread", net.unread(0, 3), 1);
        Check.due("reset", net.reset(0, 3), true);
        Check.due("state", net.state(0, 3), 4);
        Check.due("peer", net.peer(0, 3), 1);
        Check.due("unread is empty", net.unread(0, 3), 0);
        Check.due("reset again", net.reset(0, 3), false);
        Check.due("send while RESETTING", net.send(0, 3, 1), -1);
        Check.due("read while RESETTING", net.read(0, 3), -1);
        Nets.frameIs(net, 0, 1, 1, 2, 0, 3, 2, 6, 3, 0, 0);
        Check.due("a value on its way to RESETTING", net.send(1, 1, 9), 1);
        Nets.settle(net);
        Check.due("state after AGREED", net.state(0, 3), 3);
        Check.due("the value is gone", net.unread(0, 3), 0);
        Check.due("the other was OPEN", net.state(1, 1), 3);
        Check.due("its values are gone", net.unread(1, 1), 0);
        Check.due("numbers begin anew", net.send(0, 3, 4), 0);
        Check.due("and for the other", net.send(1, 1, 4), 0);
    }

    private static void resetsThatCross() {
        CircuitNet net = Nets.open(0, 2);
        net.send(0, 3, 1);
        net.reset(0, 3);
        net.reset(2, 1);
        Nets.settle(net);
        Check.due("state of the one", net.state(0, 3), 3);
        Check.due("state of the other", net.state(2, 1), 3);
        Check.due("AGREED is not put", net.row(0, 0) + net.row(2, 0), 0);
        Check.due("unread", net.unread(2, 1), 0);
        Check.due("number", net.send(2, 1, 1), 0);
        net.clear(0, 3);
        Nets.settle(net);
        Check.due("CLEAR while OPEN", net.state(2, 1), 0);
        CircuitNet late = Nets.open(0, 1);
        late.reset(0, 3);
        late.clear(1, 1);
        Nets.settle(late);
        Check.due("CLEAR while RESETTING", late.state(0, 3), 0);
        Check.due("all is free", late.busy(0, 1) + late.busy(1, 1) + late.busy(1, 0), 0);
    }

    private static void window() {
        CircuitNet net = Nets.open(0, 1);
        Check.due("value -1", net.send(0, 3, -1), -1);
        Check.due("value 256", net.send(0, 3, 256), -1);
        Check.due("value 0", net.send(0, 3, 0), 0);
        Check.due("value 255", net.send(0, 3, 255), 1);
        Check.due("third", net.send(0, 3, 7), 2);
        Check.due("fourth", net.send(0, 3, 8), -2);
        Check.due("a wrong value comes before FULL", net.send(0, 3, 256), -1);
        Check.due("row", net.row(0, 0), 3);
        Nets.settle(net);
        Check.due("confirmed by the link, but not TAKEN", net.send(0, 3, 8), -2);
        Check.due("unread", net.unread(1, 1), 3);
        Check.due("read", net.read(1, 1), 0);
        Nets.frameIs(net, 1, 1, 0, 2, 0, 1, 4, 5, 1, 1, 0);
        Check.due("TAKEN did not come yet", net.send(0, 3, 8), -2);
        Nets.settle(net);
        Check.due("TAKEN came", net.send(0, 3, 8), 3);
        Check.due("one only", net.send(0, 3, 9), -2);
        Check.due("read", net.read(1, 1), 255);
        Check.due("read", net.read(1, 1), 7);
        Nets.settle(net);
        Check.due("two came", net.send(0, 3, 9), 4);
        Check.due("two came", net.send(0, 3, 10), 5);
        Check.due("two only", net.send(0, 3, 11), -2);
    }

    private static void numbersWrap() {
        CircuitNet net = Nets.open(3, 0);
        for (int i = 0; i < 20; i++) {
            Check.due("number", net.send(3, 3, 100 + i), i % 8);
            Nets.settle(net);
            Check.due("value", net.read(0, 1), 100 + i);
            Check.due("TAKEN has GOT", net.frame(0, 1, 0, 6), (i + 1) % 8);
            Nets.settle(net);
        }
    }

    private static void valuesInOrder() {
        CircuitNet net = Nets.open(1, 0);
        for (int i = 0; i < 3; i++) {
            net.send(1, 3, 10 + i);
            net.send(0, 1, 20 + i);
        }
        Nets.settle(net);
        for (int i = 0; i < 3; i++) {
            Check.due("unread", net.unread(0, 1), 3 - i);
            Check.due("one way", net.read(0, 1), 10 + i);
            Check.due("the other way", net.read(1, 3), 20 + i);
        }
        Check.due("no more", net.read(0, 1), -1);
        Check.due("a refused read puts nothing", net.row(0, 0), 3);
    }

    private static void unreadGoes() {
        CircuitNet net = Nets.open(0, 1);
        net.send(0, 3, 1);
        Nets.settle(net);
        Check.due("unread", net.unread(1, 1), 1);
        net.clear(1, 1);
        Check.due("unread while CLEARING", net.unread(1, 1), 0);
        Check.due("read while CLEARING", net.read(1, 1), -1);
        Nets.settle(net);
        Check.due("unread while IDLE", net.unread(1, 1), 0);
        Check.due("read while IDLE", net.read(1, 1), -1);
    }

    private static void circuitsBeginAnew() {
        CircuitNet net = Nets.open(0, 1);
        net.send(0, 3, 1);
        net.send(0, 3, 2);
        net.send(1, 1, 3);
        Nets.settle(net);
        net.read(1, 1);
        Nets.settle(net);
        net.clear(0, 3);
        Nets.settle(net);
        Check.due("call again", net.call(0, 1), 3);
        Nets.settle(net);
        net.answer(1, 1);
        Nets.settle(net);
        Check.due("unread of the caller", net.unread(0, 3), 0);
        Check.due("unread of the called", net.unread(1, 1), 0);
        for (int i = 0; i < 3; i++) {
            Check.due("number of the caller", net.send(0, 3, i), i);
            Check.due("number of the called", net.send(1, 1, i), i);
        }
        Check.due("FULL", net.send(0, 3, 9), -2);
        Nets.settle(net);
        Check.due("value", net.read(1, 1), 0);
        Check.due("TAKEN with 1", net.frame(1, 1, 0, 6), 1);
    }

    private static void manyCircuits() {
        CircuitNet net = new CircuitNet();
        for (int to = 1; to < 4; to++) {
            net.call(0, to);
        }
        Nets.settle(net);
        for (int p = 1; p < 4; p++) {
            Check.due("it rings at each", net.answer(p, 1), true);
        }
        Nets.settle(net);
        for (int p = 1; p < 4; p++) {
            Check.due("peer of 0", net.peer(0, 4 - p), p);
            Check.due("peer of the other", net.peer(p, 1), 0);
            net.send(0, 4 - p, 50 + p);
        }
        Nets.settle(net);
        for (int p = 1; p < 4; p++) {
            Check.due("each gets its own value", net.read(p, 1), 50 + p);
        }
    }
}
