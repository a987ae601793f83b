/** The edges of the document's terms: what arrives at a terminal, in each state that it can meet there. */
public final class TerminalEdgeTest {
    private static final int IDLE = 0;
    private static final int CALLING = 1;
    private static final int RINGING = 2;
    private static final int OPEN = 3;
    private static final int RESETTING = 4;
    private static final int CLEARING = 5;

    public static void main(String[] args) {
        numbers();
        Check.edge("CALL: IDLE becomes RINGING, peer B; otherwise nothing.",
                TerminalEdgeTest::callElsewhere);
        Check.edge("ACCEPT: CALLING becomes OPEN.", TerminalEdgeTest::accept);
        Check.edge("CLEAR: CLEARING becomes IDLE", TerminalEdgeTest::clearOnClearing);
        Check.edge("any other state becomes IDLE, and CLEARED is put", TerminalEdgeTest::clearElsewhere);
        Check.edge("CLEARED: CLEARING becomes IDLE.", TerminalEdgeTest::cleared);
        Check.edge("DATA: when it is OPEN, the value is the last of those not read.",
                TerminalEdgeTest::dataComesLast);
        Check.edge("DATA: when it is OPEN (not otherwise)", TerminalEdgeTest::dataElsewhere);
        Check.edge("TAKEN: when it is OPEN, SURE becomes A.", TerminalEdgeTest::takenAtOnce);
        Check.edge("TAKEN: when it is OPEN (not otherwise)", TerminalEdgeTest::takenElsewhere);
        Check.edge("RESET: OPEN: it is renewed, and AGREED is put", TerminalEdgeTest::resetOnOpen);
        Check.edge("RESETTING becomes OPEN. AGREED: ..", TerminalEdgeTest::resetOnResetting);
        Check.edge("AGREED: RESETTING becomes OPEN.", TerminalEdgeTest::agreed);
        Check.edge("Else nothing. (RESET and AGREED while CLEARING)",
                TerminalEdgeTest::resetAndAgreedOnClearing);
        Check.edge("LOST: it is IDLE.", TerminalEdgeTest::lost);
        Check.finish();
    }

    private static void numbers() {
        Check.edge("it counts modulo 8: OWN", TerminalEdgeTest::ownWraps);
        Check.edge("it counts modulo 8: .. SURE", TerminalEdgeTest::sureWraps);
        Check.edge("it counts modulo 8: .. GOT", TerminalEdgeTest::gotWraps);
        Check.edge("All four are 0 or empty at the beginning of a circuit (of the caller)",
                TerminalEdgeTest::callerBeginsAnew);
        Check.edge("All four are 0 or empty at the beginning of a circuit (of the called)",
                TerminalEdgeTest::calledBeginsAnew);
        Check.edge("All four are 0 or empty .. when it is RENEWED (by a call)",
                TerminalEdgeTest::renewedByACall);
        Check.edge("All four are 0 or empty .. when it is RENEWED (by RESET)",
                TerminalEdgeTest::renewedByReset);
    }

    private static void stateIs(CircuitNet net, int p, int c, int want) {
        Check.due("state(" + p + ", " + c + ")", net.state(p, c), want);
    }

    private static void ownWraps() {
        CircuitNet net = Nets.open(0, 1);
        Nets.pass(net, 0, 1, 7);
        Check.due("after 6", net.send(0, 3, 1), 7);
        Check.due("after 7", net.send(0, 3, 1), 0);
        Check.due("after 0", net.send(0, 3, 1), 1);
        Nets.wordsAre(net, 0, 1, 6, "7 0 1");
    }

    /** At each distance from the wrap, three values may be sent, and a fourth not. */
    private static void sureWraps() {
        for (int sure = 0; sure <= 9; sure++) {
            CircuitNet net = Nets.open(0, 1);
            Nets.pass(net, 0, 1, sure);
            for (int i = 0; i < 3; i++) {
                Check.due("number with SURE " + sure, net.send(0, 3, i), (sure + i) % 8);
            }
            Check.due("FULL with SURE " + sure, net.send(0, 3, 3), -2);
            Nets.settle(net);
            net.read(1, 1);
            Nets.settle(net);
            Check.due("one more with SURE " + (sure + 1), net.send(0, 3, 3), (sure + 3) % 8);
            Check.due("one only", net.send(0, 3, 4), -2);
        }
    }

    private static void gotWraps() {
        CircuitNet net = Nets.open(0, 1);
        Nets.pass(net, 0, 1, 6);
        net.send(0, 3, 1);
        net.send(0, 3, 2);
        net.send(0, 3, 3);
        Nets.settle(net);
        net.read(1, 1);
        net.read(1, 1);
        net.read(1, 1);
        Nets.wordsAre(net, 1, 1, 6, "7 0 1");
        Nets.settle(net);
        Check.due("and SURE follows", net.send(0, 3, 4), 1);
    }

    /** A circuit with values sent, read and unread both ways, that is over. */
    private static CircuitNet usedAndOver() {
        CircuitNet net = Nets.open(0, 1);
        for (int v = 0; v < 3; v++) {
            net.send(0, 3, v);
            net.send(1, 1, v);
        }
        Nets.settle(net);
        net.read(0, 3);
        net.read(1, 1);
        net.read(1, 1);
        Nets.settle(net);
        net.clear(0, 3);
        Nets.settle(net);
        stateIs(net, 0, 3, IDLE);
        stateIs(net, 1, 1, IDLE);
        return net;
    }

    private static void isNew(CircuitNet net, int p, int c, int q, int d) {
        Check.due("nothing is unread", net.unread(p, c), 0);
        Check.due("read", net.read(p, c), -1);
        for (int i = 0; i < 3; i++) {
            Check.due("OWN was 0", net.send(p, c, i), i);
        }
        Check.due("SURE was 0", net.send(p, c, 3), -2);
        Check.due("the other sends", net.send(q, d, 77), 0);
        Nets.settle(net);
        Check.due("the value", net.read(p, c), 77);
        Check.due("GOT was 0", net.frame(p, 1, 0, 6), 1);
    }

    private static void callerBeginsAnew() {
        CircuitNet net = usedAndOver();
        Check.due("call", net.call(0, 1), 3);
        Nets.settle(net);
        net.answer(1, 1);
        Nets.settle(net);
        isNew(net, 0, 3, 1, 1);
    }

    private static void calledBeginsAnew() {
        CircuitNet net = usedAndOver();
        Check.due("call", net.call(0, 1), 3);
        Nets.settle(net);
        net.answer(1, 1);
        Nets.settle(net);
        isNew(net, 1, 1, 0, 3);
    }

    /** Values sent, read and unread both ways; terminal 0 resets, and all is at rest again. */
    private static CircuitNet usedAndRenewed() {
        CircuitNet net = Nets.open(0, 1);
        for (int v = 0; v < 3; v++) {
            net.send(0, 3, v);
            net.send(1, 1, v);
        }
        Nets.settle(net);
        net.read(0, 3);
        net.read(1, 1);
        net.read(1, 1);
        Nets.settle(net);
        Check.due("reset", net.reset(0, 3), true);
        Nets.settle(net);
        stateIs(net, 0, 3, OPEN);
        stateIs(net, 1, 1, OPEN);
        return net;
    }

    private static void renewedByACall() {
        isNew(usedAndRenewed(), 0, 3, 1, 1);
    }

    private static void renewedByReset() {
        isNew(usedAndRenewed(), 1, 1, 0, 3);
    }

    /** Terminal 0 calls on channel 1, on which a CALL of terminal 1 is on its way to it. */
    private static CircuitNet callsMeet() {
        CircuitNet net = new CircuitNet();
        net.call(1, 0);
        net.deliver(1, 1);
        Nets.frameIs(net, 0, 0, 0, 2, 0, 0, 0, 0, 1, 0, 1);
        net.call(0, 2);
        net.call(0, 2);
        Check.due("channel", net.call(0, 3), 1);
        return net;
    }

    private static void callElsewhere() {
        CircuitNet idle = new CircuitNet();
        idle.call(1, 0);
        idle.deliver(1, 1);
        stateIs(idle, 0, 1, IDLE);
        idle.deliver(0, 0);
        stateIs(idle, 0, 1, RINGING);
        Check.due("peer B", idle.peer(0, 1), 1);
        Check.due("nothing is put", idle.row(0, 0), 0);
        CircuitNet calling = callsMeet();
        calling.deliver(0, 0);
        stateIs(calling, 0, 1, CALLING);
        Check.due("its peer stays", calling.peer(0, 1), 3);
        Check.due("nothing is put", calling.row(0, 0), 3);
        CircuitNet clearing = callsMeet();
        clearing.clear(0, 1);
        clearing.deliver(0, 0);
        stateIs(clearing, 0, 1, CLEARING);
        Check.due("nothing is put", clearing.row(0, 0), 4);
    }

    private static void accept() {
        CircuitNet net = new CircuitNet();
        net.call(0, 1);
        Nets.settle(net);
        net.answer(1, 1);
        Nets.deliverAll(net, 1, 1);
        Nets.frameIs(net, 0, 0, 0, 2, 0, 0, 1, 1, 3, 0, 0);
        stateIs(net, 0, 3, CALLING);
        net.deliver(0, 0);
        stateIs(net, 0, 3, OPEN);
        CircuitNet clearing = new CircuitNet();
        clearing.call(0, 1);
        Nets.settle(clearing);
        clearing.answer(1, 1);
        Nets.deliverAll(clearing, 1, 1);
        clearing.clear(0, 3);
        clearing.deliver(0, 0);
        stateIs(clearing, 0, 3, CLEARING);
    }

    private static void clearOnClearing() {
        CircuitNet net = Nets.open(0, 1);
        net.clear(0, 3);
        net.clear(1, 1);
        net.deliver(0, 1);
        Nets.frameIs(net, 1, 0, 0, 2, 0, 1, 1, 2, 1, 0, 0);
        net.deliver(1, 0);
        stateIs(net, 1, 1, IDLE);
        Check.due("no CLEARED is put", net.row(1, 0), 1);
        Nets.wordsAre(net, 1, 1, 4, "2 -1");
    }

    private static void clearElsewhere() {
        CircuitNet calling = new CircuitNet();
        calling.call(0, 1);
        Nets.settle(calling);
        calling.clear(1, 1);
        Nets.deliverAll(calling, 1, 1);
        stateIs(calling, 0, 3, CALLING);
        isCleared(calling, 0, 3);
        CircuitNet ringing = new CircuitNet();
        ringing.call(0, 1);
        Nets.settle(ringing);
        ringing.clear(0, 3);
        Nets.deliverAll(ringing, 0, 1);
        stateIs(ringing, 1, 1, RINGING);
        isCleared(ringing, 1, 1);
        CircuitNet open = Nets.open(0, 1);
        open.clear(0, 3);
        Nets.deliverAll(open, 0, 1);
        stateIs(open, 1, 1, OPEN);
        isCleared(open, 1, 1);
        CircuitNet resetting = Nets.open(0, 1);
        resetting.clear(0, 3);
        Nets.deliverAll(resetting, 0, 1);
        resetting.reset(1, 1);
        stateIs(resetting, 1, 1, RESETTING);
        isCleared(resetting, 1, 1);
    }

    /** The CLEAR that is the first frame to p's end makes its channel IDLE and puts CLEARED. */
    private static void isCleared(CircuitNet net, int p, int c) {
        Check.due("CLEAR", net.frame(p, 0, 0, 4), 2);
        Check.due("its channel", net.frame(p, 0, 0, 5), c);
        net.deliver(p, 0);
        stateIs(net, p, c, IDLE);
        Check.due("peer", net.peer(p, c), -1);
        int last = net.frames(p, 1) - 1;
        Check.due("CLEARED", net.frame(p, 1, last, 4), 3);
        Check.due("its channel", net.frame(p, 1, last, 5), c);
        Check.due("its A and B", net.frame(p, 1, last, 6) + net.frame(p, 1, last, 7), 0);
        Check.due("the channel may call again", net.busy(p, 0), 0);
    }

    private static void cleared() {
        CircuitNet net = Nets.open(0, 1);
        net.clear(0, 3);
        net.deliver(0, 1);
        Nets.deliverLast(net, 0, 0);
        stateIs(net, 0, 3, IDLE);
        Check.due("nothing more is put", net.row(0, 0), 0);
        CircuitNet again = Nets.open(0, 1);
        again.clear(0, 3);
        again.deliver(0, 1);
        Check.due("no channel 3 before CLEARED came", again.call(0, 1), 2);
        Nets.deliverAll(again, 0, 0);
        Check.due("and now", again.call(0, 1), 3);
    }

    private static void dataComesLast() {
        CircuitNet net = Nets.open(0, 1);
        net.send(0, 3, 5);
        Nets.settle(net);
        net.send(0, 3, 0);
        net.send(0, 3, 255);
        Nets.settle(net);
        Check.due("unread", net.unread(1, 1), 3);
        Check.due("first", net.read(1, 1), 5);
        net.send(0, 3, 6);
        Nets.settle(net);
        Check.due("second", net.read(1, 1), 0);
        Check.due("third", net.read(1, 1), 255);
        Check.due("fourth", net.read(1, 1), -1);
        Nets.settle(net);
        Check.due("the window moved", net.send(0, 3, 7), 3);
    }

    private static void dataElsewhere() {
        CircuitNet resetting = Nets.open(0, 1);
        resetting.send(1, 1, 9);
        Nets.deliverAll(resetting, 1, 1);
        resetting.reset(0, 3);
        resetting.deliver(0, 0);
        Check.due("DATA while RESETTING", resetting.unread(0, 3), 0);
        Nets.settle(resetting);
        stateIs(resetting, 0, 3, OPEN);
        Check.due("it does not come to light later", resetting.unread(0, 3), 0);
        Check.due("nor is it read", resetting.read(0, 3), -1);
        CircuitNet clearing = Nets.open(0, 1);
        clearing.send(1, 1, 9);
        Nets.deliverAll(clearing, 1, 1);
        clearing.clear(0, 3);
        clearing.deliver(0, 0);
        Check.due("DATA while CLEARING", clearing.unread(0, 3), 0);
        stateIs(clearing, 0, 3, CLEARING);
    }

    private static void takenAtOnce() {
        CircuitNet net = Nets.open(0, 1);
        for (int v = 0; v < 3; v++) {
            net.send(0, 3, v);
        }
        Nets.settle(net);
        net.read(1, 1);
        net.read(1, 1);
        Nets.deliverAll(net, 1, 1);
        Check.due("FULL", net.send(0, 3, 3), -2);
        net.deliver(0, 0);
        Check.due("the first TAKEN came", net.send(0, 3, 3), 3);
        Check.due("FULL", net.send(0, 3, 4), -2);
        net.deliver(0, 0);
        Check.due("the second TAKEN came", net.send(0, 3, 4), 4);
        Check.due("FULL", net.send(0, 3, 5), -2);
        for (int v = 0; v < 3; v++) {
            Check.due("DATA the other way", net.send(1, 1, v), v);
            Nets.settle(net);
            Check.due("DATA is not TAKEN", net.send(0, 3, 5), -2);
        }
    }

    private static void takenElsewhere() {
        CircuitNet net = Nets.open(0, 1);
        net.send(0, 3, 1);
        Nets.settle(net);
        net.read(1, 1);
        Nets.deliverAll(net, 1, 1);
        net.reset(0, 3);
        Nets.frameIs(net, 0, 0, 0, 2, 0, 1, 2, 5, 3, 1, 0);
        Nets.settle(net);
        stateIs(net, 0, 3, OPEN);
        for (int i = 0; i < 3; i++) {
            Check.due("number", net.send(0, 3, i), i);
        }
        Check.due("the TAKEN of before the reset did not count", net.send(0, 3, 3), -2);
    }

    private static void resetOnOpen() {
        CircuitNet net = Nets.open(0, 1);
        net.send(0, 3, 1);
        net.reset(0, 3);
        Nets.deliverAll(net, 0, 1);
        net.deliver(1, 0);
        Check.due("unread before RESET", net.unread(1, 1), 1);
        net.deliver(1, 0);
        Check.due("unread after RESET", net.unread(1, 1), 0);
        stateIs(net, 1, 1, OPEN);
        Check.due("peer", net.peer(1, 1), 0);
        Nets.frameIs(net, 1, 1, 2, 2, 0, 1, 3, 7, 1, 0, 0);
        Check.due("it may send at once", net.send(1, 1, 5), 0);
        Nets.settle(net);
        Check.due("and the value comes after AGREED", net.read(0, 3), 5);
    }

    private static void resetOnResetting() {
        CircuitNet net = Nets.open(0, 1);
        net.reset(0, 3);
        net.reset(1, 1);
        Nets.deliverAll(net, 0, 1);
        Nets.deliverAll(net, 1, 0);
        stateIs(net, 1, 1, OPEN);
        Check.due("no AGREED is put", net.row(1, 0), 1);
        stateIs(net, 0, 3, RESETTING);
        Nets.settle(net);
        stateIs(net, 0, 3, OPEN);
        Check.due("nor here", net.row(0, 0), 0);
        Check.due("number", net.send(0, 3, 1), 0);
    }

    private static void agreed() {
        CircuitNet net = Nets.open(0, 1);
        net.reset(0, 3);
        Nets.deliverAll(net, 0, 1);
        Nets.deliverAll(net, 1, 0);
        Nets.deliverAll(net, 1, 1);
        stateIs(net, 0, 3, RESETTING);
        Nets.wordsAre(net, 0, 0, 4, "-1 7");
        Nets.deliverAll(net, 0, 0);
        stateIs(net, 0, 3, OPEN);
        Check.due("nothing is put", net.row(0, 0), 0);
        Check.due("reset again", net.reset(0, 3), true);
    }

    private static void resetAndAgreedOnClearing() {
        CircuitNet reset = Nets.open(0, 1);
        reset.reset(1, 1);
        Nets.deliverAll(reset, 1, 1);
        reset.clear(0, 3);
        reset.deliver(0, 0);
        stateIs(reset, 0, 3, CLEARING);
        Check.due("no AGREED is put", reset.row(0, 0), 1);
        CircuitNet agreed = Nets.open(0, 1);
        agreed.reset(0, 3);
        Nets.deliverAll(agreed, 0, 1);
        Nets.deliverAll(agreed, 1, 0);
        Nets.deliverAll(agreed, 1, 1);
        agreed.clear(0, 3);
        Nets.deliverAll(agreed, 0, 0);
        stateIs(agreed, 0, 3, CLEARING);
    }

    private static void lost() {
        CircuitNet net = Nets.open(0, 1);
        net.call(2, 0);
        Nets.settle(net);
        net.call(0, 3);
        stateIs(net, 0, 1, RINGING);
        stateIs(net, 0, 2, CALLING);
        stateIs(net, 0, 3, OPEN);
        net.tick(16);
        for (int c = 1; c <= 3; c++) {
            stateIs(net, 0, c, IDLE);
            Check.due("peer", net.peer(0, c), -1);
        }
        Check.due("nothing is put", net.row(0, 0), 0);
        CircuitNet other = Nets.open(0, 1);
        other.call(0, 1);
        Nets.settle(other);
        other.answer(1, 2);
        Nets.settle(other);
        other.reset(0, 3);
        other.clear(0, 2);
        stateIs(other, 0, 2, CLEARING);
        stateIs(other, 0, 3, RESETTING);
        other.tick(16);
        stateIs(other, 0, 2, IDLE);
        stateIs(other, 0, 3, IDLE);
        Check.due("nothing is put", other.row(0, 0), 0);
    }
}
