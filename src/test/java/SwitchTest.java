/** The switches' part of promises 8, 10 and 19: routes, joints, refusals, and calls that give way. */
public final class SwitchTest {
    public static void main(String[] args) {
        routes();
        leastAndGreatest();
        refusedForWantOfAChannel();
        refusedForAnEndThatIsDown();
        callGivesWay();
        callGivesWayAndIsRefused();
        answeredCallStands();
        callStandsOnTheTrunk();
        callGivesWayOnTheTrunk();
        callOnClearing();
        packetsAreHandedOn();
        packetsAfterTheClear();
        lostJoined();
        lostClearing();
        lostThree();
        busyOfAllKinds();
        Check.finish();
    }

    private static void routes() {
        for (int p = 0; p < 4; p++) {
            for (int to = 0; to < 4; to++) {
                if (p != to) {
                    route(p, to);
                }
            }
        }
    }

    private static void route(int p, int to) {
        CircuitNet net = new CircuitNet();
        net.call(p, to);
        net.deliver(p, 1);
        boolean far = p / 2 != to / 2;
        if (far) {
            int end = p < 2 ? 1 : 0;
            Check.due("over the trunk", net.frames(4, end), 1);
            Nets.frameIs(net, 4, end, 0, 2, 0, 0, 0, 0, p < 2 ? 3 : 1, to, p);
            net.deliver(4, end);
        }
        Check.due("nothing on the trunk", far || net.busy(4, 0) + net.busy(4, 1) == 0, true);
        Nets.frameIs(net, to, 0, 0, 2, 0, 0, 0, 0, 1, to, p);
        net.deliver(to, 0);
        Check.due("it rings", net.state(to, 1), 2);
        Check.due("peer", net.peer(to, 1), p);
        for (int q = 0; q < 4; q++) {
            Check.due("busy", net.busy(q, 0), q == p || q == to ? 1 : 0);
            Check.due("busy", net.busy(q, 1), q == p || q == to ? 1 : 0);
        }
    }

    private static void leastAndGreatest() {
        CircuitNet net = new CircuitNet();
        net.call(0, 2);
        net.call(1, 3);
        net.deliver(0, 1);
        net.deliver(1, 1);
        Check.due("end 0 takes the greatest", net.frame(4, 1, 0, 5), 3);
        Check.due("then the next", net.frame(4, 1, 1, 5), 2);
        net.call(2, 0);
        net.call(2, 1);
        net.deliver(2, 1);
        net.deliver(2, 1);
        Check.due("end 1 takes the least", net.frame(4, 0, 0, 5), 1);
        Check.due("then the next", net.frame(4, 0, 1, 5), 2);
        CircuitNet mid = new CircuitNet();
        mid.call(0, 1);
        mid.call(2, 1);
        mid.call(3, 1);
        Nets.settle(mid);
        Check.due("ringing", mid.peer(1, 1) + mid.peer(1, 2) + mid.peer(1, 3), 5);
        mid.clear(1, 2);
        Nets.settle(mid);
        mid.call(0, 1);
        Nets.settle(mid);
        Check.due("the one that is FREE", mid.peer(1, 2), 0);
    }

    private static void refusedForWantOfAChannel() {
        CircuitNet net = new CircuitNet();
        net.call(0, 2);
        net.call(0, 3);
        net.call(1, 2);
        net.call(1, 3);
        Nets.deliverAll(net, 0, 1);
        net.deliver(1, 1);
        Check.due("the trunk is full", net.busy(4, 0), 3);
        net.deliver(1, 1);
        Check.due("frames to the caller", net.frames(1, 0), 3);
        Nets.frameIs(net, 1, 0, 2, 2, 0, 0, 2, 2, 2, 0, 0);
        Check.due("the caller's channel is CLEARING", net.busy(1, 1), 2);
        Nets.deliverAll(net, 1, 0);
        Check.due("the caller is IDLE", net.state(1, 2), 0);
        Nets.frameIs(net, 1, 1, 0, 3, 0, -1, 1);
        Check.due("row of the caller", net.row(1, 0), 1);
        Nets.settle(net);
        Check.due("CLEARED makes it FREE", net.busy(1, 1), 1);
        Check.due("the others ring", net.state(2, 1) + net.state(2, 2) + net.state(3, 1), 6);
    }

    private static void refusedForAnEndThatIsDown() {
        CircuitNet net = Nets.open(0, 1);
        net.send(0, 3, 1);
        net.deliver(0, 1);
        net.deliver(0, 0);
        net.tick(16);
        Check.due("link 1 end 1 failed", net.up(1, 1), false);
        Check.due("its epoch", net.epoch(1, 1), 1);
        net.deliver(0, 0);
        Check.due("the circuit is cleared", net.state(0, 3), 0);
        Nets.deliverAll(net, 0, 1);
        Nets.deliverAll(net, 0, 0);
        Check.due("its channel is FREE", net.busy(0, 1), 0);
        Check.due("call", net.call(0, 1), 3);
        net.deliver(0, 1);
        Check.due("CLEAR", net.frame(0, 0, 1, 4), 2);
        Check.due("nothing is joined", net.busy(1, 1), 0);
        Check.due("CLEARING", net.busy(0, 1), 1);
    }

    private static void callGivesWay() {
        CircuitNet net = new CircuitNet();
        net.call(0, 2);
        net.call(0, 2);
        net.call(0, 1);
        net.call(1, 0);
        net.deliver(1, 1);
        Check.due("1 is joined to channel 1 of link 0", net.frame(0, 0, 0, 5), 1);
        Nets.deliverAll(net, 0, 1);
        Check.due("frames", net.frames(1, 0), 3);
        Nets.frameIs(net, 1, 0, 1, 2, 0, 0, 1, 2, 3, 0, 0);
        Nets.frameIs(net, 1, 0, 2, 2, 0, 1, 1, 0, 1, 1, 0);
        Check.due("one CLEARING, one JOINED", net.busy(1, 1), 2);
        Nets.settle(net);
        Check.due("the one that gave way is IDLE", net.state(1, 3), 0);
        Check.due("the other one rings", net.state(1, 1), 2);
        Check.due("its peer", net.peer(1, 1), 0);
        Check.due("the caller", net.state(0, 1), 1);
        net.answer(1, 1);
        Nets.settle(net);
        Check.due("it opens", net.state(0, 1), 3);
        Check.due("its channel", net.busy(1, 1), 1);
    }

    private static void callGivesWayAndIsRefused() {
        CircuitNet net = new CircuitNet();
        net.call(1, 0);
        net.call(1, 0);
        Nets.settle(net);
        net.call(1, 0);
        net.deliver(1, 1);
        Check.due("channel 3", net.frame(0, 0, 0, 5), 3);
        Check.due("that 0 takes, too", net.call(0, 1), 3);
        net.deliver(0, 1);
        Check.due("frames to 0", net.frames(0, 0), 3);
        Nets.frameIs(net, 0, 0, 2, 2, 0, 3, 1, 2, 3, 0, 0);
        Check.due("frames to 1", net.frames(1, 0), 2);
        Nets.frameIs(net, 1, 0, 1, 2, 0, 0, 3, 2, 1, 0, 0);
        Check.due("all are busy", net.busy(0, 1) + net.busy(1, 1), 6);
        Nets.settle(net);
        Check.due("the one is IDLE", net.state(0, 3), 0);
        Check.due("the other is IDLE", net.state(1, 1), 0);
        Check.due("two are left", net.busy(0, 1), 2);
        Check.due("two are left", net.busy(1, 1), 2);
    }

    private static void answeredCallStands() {
        CircuitNet net = new CircuitNet();
        net.call(1, 0);
        Nets.settle(net);
        net.answer(0, 1);
        Check.due("others call meanwhile", net.call(0, 1) + net.call(0, 1), 3 + 2);
        Nets.settle(net);
        Check.due("no channel is left", net.call(0, 1), -1);
        Check.due("the first is OPEN", net.state(0, 1), 3);
        Check.due("at both", net.state(1, 3), 3);
    }

    private static void callStandsOnTheTrunk() {
        CircuitNet net = meetOnTheTrunk();
        net.deliver(4, 0);
        Check.due("the one on channel 1 is joined", net.busy(4, 0), 3);
        Check.due("to", net.frames(0, 0), 2);
        net.deliver(4, 0);
        Check.due("end 0 does not give way", net.row(4, 0), 2);
        Check.due("READY is sent", net.frame(4, 1, 3, 3), 2);
        Check.due("no CLEAR nor CALL", net.frames(1, 0), 1);
        Check.due("to neither", net.frames(0, 0), 2);
    }

    private static void callGivesWayOnTheTrunk() {
        CircuitNet net = meetOnTheTrunk();
        net.deliver(4, 1);
        net.deliver(4, 1);
        Check.due("frames", net.frames(3, 0), 3);
        Nets.frameIs(net, 3, 0, 1, 2, 0, 0, 1, 2, 3, 0, 0);
        Nets.frameIs(net, 3, 0, 2, 2, 0, 1, 1, 0, 1, 3, 1);
        Nets.settle(net);
        Check.due("the call to 3 rings", net.peer(3, 1), 1);
        Check.due("that of 3 gave way", net.state(3, 3), 0);
        Check.due("the call to 2 rings", net.peer(2, 1), 0);
        Check.due("the call to 0 rings", net.peer(0, 1), 2);
        Check.due("nothing rings at 1", net.busy(1, 0), 1);
        Check.due("busy", net.busy(4, 0), 3);
        Check.due("busy", net.busy(4, 1), 3);
    }

    /** Calls of 1 and of 3 that take channel 2 of link 4 from both sides at once. */
    private static CircuitNet meetOnTheTrunk() {
        CircuitNet net = new CircuitNet();
        net.call(0, 2);
        net.call(1, 3);
        net.call(2, 0);
        net.call(3, 1);
        for (int p = 0; p < 4; p++) {
            net.deliver(p, 1);
        }
        Check.due("first to end 1", net.frame(4, 1, 0, 5), 3);
        Check.due("second to end 1", net.frame(4, 1, 1, 5), 2);
        Check.due("first to end 0", net.frame(4, 0, 0, 5), 1);
        Check.due("second to end 0", net.frame(4, 0, 1, 5), 2);
        return net;
    }

    private static void callOnClearing() {
        CircuitNet net = new CircuitNet();
        net.call(0, 2);
        net.call(0, 2);
        net.call(0, 2);
        net.call(1, 0);
        net.deliver(1, 1);
        net.clear(1, 3);
        net.deliver(1, 1);
        Check.due("channel 1 of link 0 is CLEARING", net.busy(0, 1), 1);
        net.deliver(0, 1);
        net.deliver(0, 1);
        Check.due("two are joined", net.busy(4, 0), 2);
        net.deliver(0, 1);
        Check.due("CALL while CLEARING: nothing", net.busy(4, 0), 2);
        Check.due("nothing is put", net.row(0, 1), 2);
        Nets.settle(net);
        Check.due("CLEAR ended it", net.state(0, 1), 0);
        Check.due("two are left", net.busy(0, 1), 2);
    }

    private static void packetsAreHandedOn() {
        CircuitNet net = Nets.open(0, 2);
        net.send(0, 3, 200);
        net.deliver(0, 1);
        Nets.frameIs(net, 4, 1, 0, 2, 0, 1, 1, 4, 3, 0, 200);
        net.deliver(4, 1);
        Nets.frameIs(net, 2, 0, 0, 2, 0, 1, 1, 4, 1, 0, 200);
        net.deliver(2, 0);
        net.read(2, 1);
        Nets.settle(net);
        net.send(0, 3, 201);
        net.reset(0, 3);
        net.deliver(0, 1);
        net.deliver(0, 1);
        Nets.frameIs(net, 4, 1, 0, 2, 0, 2, 2, 4, 3, 1, 201);
        Nets.frameIs(net, 4, 1, 1, 2, 0, 3, 2, 6, 3, 0, 0);
        net.deliver(4, 1);
        net.deliver(4, 1);
        Nets.deliverAll(net, 2, 0);
        Check.due("AGREED", net.frame(2, 1, net.frames(2, 1) - 1, 4), 7);
        Nets.deliverAll(net, 2, 1);
        Check.due("AGREED on the trunk", net.frame(4, 0, net.frames(4, 0) - 1, 4), 7);
        Check.due("its channel", net.frame(4, 0, net.frames(4, 0) - 1, 5), 3);
    }

    private static void packetsAfterTheClear() {
        CircuitNet net = Nets.open(0, 1);
        net.clear(1, 1);
        net.deliver(1, 1);
        net.send(0, 3, 1);
        int row = net.row(1, 1);
        net.deliver(0, 1);
        Check.due("DATA on a CLEARING channel: nothing", net.row(1, 1), row);
        Check.due("its channel is still CLEARING", net.busy(0, 1), 1);
        Nets.settle(net);
        Check.due("busy", net.busy(0, 1) + net.busy(0, 0) + net.busy(1, 1) + net.busy(1, 0), 0);
    }

    private static void lostJoined() {
        CircuitNet net = Nets.open(0, 2);
        net.send(2, 1, 1);
        net.deliver(2, 1);
        net.deliver(2, 0);
        net.tick(16);
        Check.due("link 4 end 1 failed", net.epoch(4, 1), 1);
        Check.due("its channel is FREE", net.busy(4, 1), 0);
        Check.due("the partner is CLEARING", net.busy(2, 1), 1);
        Nets.frameIs(net, 2, 0, 0, 2, 0, 1, 2, 2, 1, 0, 0);
        Check.due("link 4 end 0 does not know yet", net.busy(4, 0), 1);
        Nets.deliverAll(net, 2, 0);
        Check.due("2 is cleared", net.state(2, 1), 0);
        Nets.deliverAll(net, 4, 0);
        Check.due("SET breaks the other end", net.busy(4, 0), 0);
        Nets.settle(net);
        Check.due("0 is cleared", net.state(0, 3), 0);
        Check.due("all is free", net.busy(0, 1) + net.busy(2, 1), 0);
    }

    private static void lostClearing() {
        CircuitNet net = Nets.open(0, 1);
        net.clear(0, 3);
        net.deliver(0, 1);
        net.deliver(0, 0);
        net.deliver(0, 0);
        net.deliver(0, 1);
        Check.due("link 1 end 1 is CLEARING", net.busy(1, 1), 1);
        net.tick(16);
        Check.due("LOST while CLEARING: FREE", net.busy(1, 1), 0);
        Check.due("and nothing is put", net.row(0, 1), 0);
        Check.due("terminal 1 does not know", net.state(1, 1), 3);
        for (int i = 0; i < 4; i++) {
            Check.due("CLEAR", net.frame(1, 0, 0, 4), 2);
            net.lose(1, 0);
        }
        net.deliver(1, 0);
        Check.due("SET tells it", net.state(1, 1), 0);
        Check.due("epoch", net.epoch(1, 0), 1);
    }

    private static void lostThree() {
        CircuitNet net = new CircuitNet();
        net.call(0, 1);
        net.call(0, 2);
        net.call(0, 3);
        Nets.settle(net);
        net.answer(1, 1);
        net.deliver(1, 1);
        net.deliver(1, 0);
        net.tick(16);
        Check.due("link 0 end 1 failed", net.up(0, 1), false);
        Check.due("CLEAR", net.row(1, 1), 1);
        Check.due("CLEAR twice", net.row(4, 0), 2);
        Check.due("from channel 1 on", net.frame(4, 1, 0, 5), 2);
        Check.due("then 2", net.frame(4, 1, 1, 5), 3);
        Check.due("then 3", net.frame(1, 0, 0, 5), 1);
        Nets.settle(net);
        for (int p = 0; p < 4; p++) {
            Check.due("busy", net.busy(p, 0) + net.busy(p, 1), 0);
        }
    }

    private static void busyOfAllKinds() {
        CircuitNet net = Nets.open(0, 1);
        Check.due("OPEN", net.busy(0, 0), 1);
        net.call(0, 2);
        Check.due("CALLING", net.busy(0, 0), 2);
        net.call(3, 0);
        Nets.settle(net);
        Check.due("RINGING", net.busy(0, 0), 3);
        Check.due("JOINED", net.busy(0, 1), 3);
        net.reset(0, 3);
        Check.due("RESETTING", net.busy(0, 0), 3);
        net.clear(0, 3);
        Check.due("CLEARING", net.busy(0, 0), 3);
        Check.due("the trunk", net.busy(4, 0), 2);
        Check.due("the trunk", net.busy(4, 1), 2);
    }
}
