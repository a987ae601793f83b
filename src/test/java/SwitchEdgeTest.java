/** The edges of the document's terms: routes, free channels, and what arrives at a switch. */
public final class SwitchEdgeTest {
    public static void main(String[] args) {
        calls();
        Check.edge("CLEAR: .. JOINED: it is FREE, and CLEARED is put on c; CLEAR is put on its partner",
                SwitchEdgeTest::clearOnJoined);
        Check.edge("CLEAR: .. CLEARING: it is FREE.", SwitchEdgeTest::clearOnClearing);
        Check.edge("CLEARED: CLEARING becomes FREE", SwitchEdgeTest::cleared);
        Check.edge("All others: JOINED: the same packet is put on its partner",
                SwitchEdgeTest::othersOnJoined);
        Check.edge("All others: .. else nothing", SwitchEdgeTest::othersOnClearing);
        Check.edge("LOST: JOINED: it is FREE, and CLEAR is put on its partner, which is CLEARING",
                SwitchEdgeTest::lostJoined);
        Check.edge("LOST: .. CLEARING: it is FREE.", SwitchEdgeTest::lostClearing);
        Check.edge("LOST (FREE: nothing)", SwitchEdgeTest::lostFree);
        Check.finish();
    }

    private static void calls() {
        Check.edge("ROUTE: the end at the switch of the link that leads to the terminal that is called",
                SwitchEdgeTest::nearRoutes);
        Check.edge("or, when that is at the other switch, of link 4", SwitchEdgeTest::farRoutes);
        Check.edge("when the end y of its route .. is UP", SwitchEdgeTest::routeIsNotUp);
        Check.edge("and has a FREE channel (the third, but no fourth)",
                SwitchEdgeTest::threeFreeChannels);
        Check.edge("and has a FREE channel (one that is CLEARING is not FREE)",
                SwitchEdgeTest::clearingIsNotFree);
        Check.edge("CALL is put there, with the same A and B", SwitchEdgeTest::sameAAndB);
        Check.edge("the greatest one if y is end 0 of its link", SwitchEdgeTest::greatestAtEnd0);
        Check.edge("the least one if it is end 1", SwitchEdgeTest::leastAtEnd1);
        Check.edge("Otherwise CLEAR is put on c, which is CLEARING.", SwitchEdgeTest::refusedIsClearing);
        Check.edge("JOINED, when x is end 1 .. that call gives way", SwitchEdgeTest::givesWay);
        Check.edge("JOINED, when x is end 1 (of link 4)", SwitchEdgeTest::givesWayOnTheTrunk);
        Check.edge("JOINED, when x is end 1 (not when it is end 0)", SwitchEdgeTest::standsAtEnd0);
        Check.edge("then the CALL that arrived is treated as on a FREE channel (and refused)",
                SwitchEdgeTest::givesWayAndIsRefused);
        Check.edge("Else nothing. (CALL while CLEARING)", SwitchEdgeTest::callOnClearing);
    }

    private static void busyIs(CircuitNet net, int link, int end, int want) {
        Check.due("busy(" + link + ", " + end + ")", net.busy(link, end), want);
    }

    private static void nearRoutes() {
        int[][] pairs = {{0, 1}, {1, 0}, {2, 3}, {3, 2}};
        for (int[] pair : pairs) {
            CircuitNet net = new CircuitNet();
            net.call(pair[0], pair[1]);
            net.deliver(pair[0], 1);
            for (int link = 0; link < 5; link++) {
                busyIs(net, link, 1, link == pair[0] || link == pair[1] ? 1 : 0);
            }
            busyIs(net, 4, 0, 0);
            Check.due("frames to the called", net.frames(pair[1], 0), 1);
        }
    }

    private static void farRoutes() {
        for (int p = 0; p < 4; p++) {
            for (int to = p < 2 ? 2 : 0; to < (p < 2 ? 4 : 2); to++) {
                CircuitNet net = new CircuitNet();
                net.call(p, to);
                net.deliver(p, 1);
                int near = p < 2 ? 0 : 1;
                busyIs(net, 4, near, 1);
                busyIs(net, 4, 1 - near, 0);
                busyIs(net, to, 1, 0);
                net.deliver(4, 1 - near);
                busyIs(net, 4, 1 - near, 1);
                busyIs(net, to, 1, 1);
                Check.due("frames to the called", net.frames(to, 0), 1);
            }
        }
    }

    /** End 1 of link 1 is SETTING, and link 0 is at rest with all its channels unused. */
    private static CircuitNet wayToOneIsDown() {
        CircuitNet net = new CircuitNet();
        net.call(0, 1);
        net.deliver(0, 1);
        net.deliver(0, 0);
        net.tick(16);
        Check.due("the end is SETTING", net.up(1, 1), false);
        Nets.deliverAll(net, 0, 0);
        Nets.deliverAll(net, 0, 1);
        Nets.deliverAll(net, 0, 0);
        busyIs(net, 0, 0, 0);
        busyIs(net, 0, 1, 0);
        return net;
    }

    private static void routeIsNotUp() {
        CircuitNet net = wayToOneIsDown();
        net.call(0, 1);
        net.deliver(0, 1);
        busyIs(net, 1, 1, 0);
        Check.due("nothing is put there", net.row(1, 1), 0);
        Check.due("CLEAR", net.frame(0, 0, 1, 4), 2);
        busyIs(net, 0, 1, 1);
        CircuitNet again = wayToOneIsDown();
        Nets.deliverAll(again, 1, 0);
        Nets.deliverAll(again, 1, 1);
        Check.due("the end is UP", again.up(1, 1), true);
        again.call(0, 1);
        again.deliver(0, 1);
        busyIs(again, 1, 1, 1);
    }

    private static void threeFreeChannels() {
        CircuitNet net = new CircuitNet();
        net.call(0, 1);
        net.call(2, 1);
        net.call(3, 1);
        Nets.settle(net);
        busyIs(net, 1, 1, 3);
        Check.due("the third rings", net.state(1, 3), 2);
        net.call(0, 1);
        net.deliver(0, 1);
        Check.due("nothing for a fourth", net.row(1, 1), 0);
        Check.due("it is refused", net.frame(0, 0, 1, 4), 2);
        Nets.settle(net);
        net.clear(1, 2);
        Nets.settle(net);
        net.call(0, 1);
        Nets.settle(net);
        Check.due("one is FREE again", net.peer(1, 2), 0);
    }

    private static void clearingIsNotFree() {
        CircuitNet net = new CircuitNet();
        net.call(0, 1);
        net.call(0, 1);
        net.call(2, 1);
        Nets.settle(net);
        net.clear(0, 3);
        net.deliver(0, 1);
        busyIs(net, 0, 1, 1);
        busyIs(net, 1, 1, 3);
        net.call(0, 1);
        net.deliver(0, 1);
        Check.due("only CLEAR is put", net.row(1, 1), 1);
        Nets.wordsAre(net, 1, 0, 4, "2");
        Check.due("the call is refused", net.frame(0, 0, net.frames(0, 0) - 1, 4), 2);
    }

    private static void sameAAndB() {
        CircuitNet net = new CircuitNet();
        net.call(3, 0);
        net.deliver(3, 1);
        Nets.frameIs(net, 4, 0, 0, 2, 0, 0, 0, 0, 1, 0, 3);
        net.deliver(4, 0);
        Nets.frameIs(net, 0, 0, 0, 2, 0, 0, 0, 0, 1, 0, 3);
    }

    private static void greatestAtEnd0() {
        CircuitNet net = new CircuitNet();
        net.call(0, 2);
        net.call(0, 2);
        net.call(0, 3);
        Nets.deliverAll(net, 0, 1);
        Nets.wordsAre(net, 4, 1, 5, "3 2 1");
        Nets.settle(net);
        net.clear(0, 2);
        Nets.settle(net);
        busyIs(net, 4, 0, 2);
        net.call(1, 2);
        net.deliver(1, 1);
        Nets.wordsAre(net, 4, 1, 5, "2");
        CircuitNet two = new CircuitNet();
        two.call(0, 2);
        two.call(0, 2);
        two.call(0, 3);
        Nets.settle(two);
        two.clear(0, 2);
        two.clear(0, 1);
        Nets.settle(two);
        two.call(1, 2);
        two.deliver(1, 1);
        Nets.wordsAre(two, 4, 1, 5, "2");
    }

    private static void leastAtEnd1() {
        CircuitNet net = new CircuitNet();
        net.call(2, 0);
        net.call(2, 0);
        net.call(2, 1);
        Nets.deliverAll(net, 2, 1);
        Nets.wordsAre(net, 4, 0, 5, "1 2 3");
        Nets.settle(net);
        net.clear(2, 2);
        net.clear(2, 1);
        Nets.settle(net);
        net.call(3, 0);
        net.deliver(3, 1);
        Nets.wordsAre(net, 4, 0, 5, "2");
        CircuitNet near = new CircuitNet();
        near.call(0, 1);
        near.call(0, 1);
        near.call(0, 1);
        Nets.deliverAll(near, 0, 1);
        Nets.wordsAre(near, 1, 0, 5, "1 2 3");
    }

    private static void refusedIsClearing() {
        CircuitNet net = wayToOneIsDown();
        net.call(0, 1);
        net.deliver(0, 1);
        Nets.wordsAre(net, 0, 0, 0, "3 2");
        Check.due("on c", net.frame(0, 0, 1, 5), 3);
        busyIs(net, 0, 1, 1);
        net.deliver(0, 0);
        net.deliver(0, 0);
        Check.due("the caller is IDLE", net.state(0, 3), 0);
        busyIs(net, 0, 1, 1);
        Nets.deliverAll(net, 0, 1);
        busyIs(net, 0, 1, 0);
    }

    /** Channel 1 of link 0: the switch puts a CALL of 1 on it, and terminal 0 one to 3. */
    private static CircuitNet meetOnLink0() {
        CircuitNet net = new CircuitNet();
        net.call(0, 2);
        net.call(0, 2);
        Nets.settle(net);
        net.call(1, 0);
        net.deliver(1, 1);
        net.deliver(1, 0);
        Check.due("channel of the switch's CALL", net.frame(0, 0, 0, 5), 1);
        Check.due("channel of the terminal's CALL", net.call(0, 3), 1);
        return net;
    }

    private static void givesWay() {
        CircuitNet net = meetOnLink0();
        net.deliver(0, 1);
        Nets.frameIs(net, 1, 0, 0, 2, 0, 0, 1, 2, 3, 0, 0);
        busyIs(net, 1, 1, 1);
        busyIs(net, 0, 1, 3);
        Nets.wordsAre(net, 4, 1, 4, "0");
        Nets.frameIs(net, 4, 1, 0, 2, 0, 2, 0, 0, 1, 3, 0);
        Nets.settle(net);
        Check.due("the one that gave way", net.state(1, 3), 0);
        Check.due("the other one rings", net.peer(3, 1), 0);
        Check.due("nothing rings at 0", net.state(0, 1), 1);
        net.answer(3, 1);
        Nets.settle(net);
        Check.due("and opens", net.state(0, 1), 3);
    }

    /** Calls of 1 and of 3 that take channel 2 of link 4 from both sides at once. */
    private static CircuitNet meetOnTheTrunk() {
        CircuitNet net = new CircuitNet();
        net.call(0, 2);
        Nets.settle(net);
        net.call(2, 0);
        Nets.settle(net);
        net.call(1, 3);
        net.call(3, 1);
        net.deliver(1, 1);
        net.deliver(3, 1);
        Check.due("channel to end 1", net.frame(4, 1, 0, 5), 2);
        Check.due("channel to end 0", net.frame(4, 0, 0, 5), 2);
        return net;
    }

    private static void givesWayOnTheTrunk() {
        CircuitNet net = meetOnTheTrunk();
        net.deliver(4, 1);
        Nets.wordsAre(net, 3, 0, 4, "-1 2 0");
        Nets.wordsAre(net, 3, 0, 5, "-1 3 1");
        busyIs(net, 4, 1, 3);
        busyIs(net, 3, 1, 2);
        Nets.settle(net);
        Check.due("3's call gave way", net.state(3, 3), 0);
        Check.due("1's call rings", net.peer(3, 1), 1);
    }

    private static void standsAtEnd0() {
        CircuitNet net = meetOnTheTrunk();
        net.deliver(4, 0);
        Check.due("READY alone is sent", net.frames(4, 1), 2);
        Nets.wordsAre(net, 4, 1, 0, "2 3");
        Check.due("no CLEAR to the caller", net.row(1, 1), 0);
        Nets.wordsAre(net, 1, 0, 0, "3");
        busyIs(net, 4, 0, 3);
        busyIs(net, 1, 1, 1);
        Nets.settle(net);
        Check.due("1's call rings", net.peer(3, 1), 1);
        Check.due("3's call gave way", net.state(3, 3), 0);
        net.answer(3, 1);
        Nets.settle(net);
        Check.due("it opens", net.state(1, 3), 3);
    }

    private static void givesWayAndIsRefused() {
        CircuitNet net = new CircuitNet();
        net.call(0, 1);
        net.call(0, 1);
        Nets.settle(net);
        net.call(1, 0);
        net.deliver(1, 1);
        net.deliver(1, 0);
        Check.due("all of link 1 are busy", net.busy(1, 1), 3);
        Check.due("the same channel", net.call(0, 1), net.frame(0, 0, 0, 5));
        net.deliver(0, 1);
        Nets.wordsAre(net, 1, 0, 4, "2");
        Check.due("the partner is CLEARING, so no channel is FREE", net.busy(1, 1), 3);
        Nets.wordsAre(net, 0, 0, 4, "0 -1 2");
        Nets.wordsAre(net, 0, 0, 5, "1 -1 1");
        busyIs(net, 0, 1, 3);
        Nets.settle(net);
        busyIs(net, 0, 1, 2);
        busyIs(net, 1, 1, 2);
        busyIs(net, 0, 0, 2);
        busyIs(net, 1, 0, 2);
    }

    private static void callOnClearing() {
        CircuitNet net = meetOnLink0();
        net.clear(1, 3);
        net.deliver(1, 1);
        busyIs(net, 0, 1, 3);
        int row = net.row(0, 1);
        net.deliver(0, 1);
        Check.due("nothing is put on link 0", net.row(0, 1), row);
        Check.due("nor on link 4", net.frames(4, 1), 0);
        busyIs(net, 0, 1, 3);
        Nets.settle(net);
        Check.due("CLEAR reached the caller", net.state(0, 1), 0);
        busyIs(net, 0, 1, 2);
    }

    private static void clearOnJoined() {
        CircuitNet net = Nets.open(0, 1);
        net.clear(0, 3);
        net.deliver(0, 1);
        busyIs(net, 0, 1, 0);
        busyIs(net, 1, 1, 1);
        Nets.frameIs(net, 0, 0, 1, 2, 0, 1, 2, 3, 3, 0, 0);
        Nets.frameIs(net, 1, 0, 0, 2, 0, 1, 1, 2, 1, 0, 0);
        Check.due("frames", net.frames(0, 0) + net.frames(1, 0), 3);
    }

    private static void clearOnClearing() {
        CircuitNet net = Nets.open(0, 1);
        net.clear(0, 3);
        net.clear(1, 1);
        net.deliver(0, 1);
        busyIs(net, 1, 1, 1);
        net.deliver(1, 1);
        busyIs(net, 1, 1, 0);
        Nets.wordsAre(net, 1, 0, 4, "2 -1");
        Check.due("nothing more to the other", net.row(0, 1), 1);
        Nets.settle(net);
        Check.due("both are IDLE", net.state(0, 3) + net.state(1, 1), 0);
    }

    private static void cleared() {
        CircuitNet net = Nets.open(0, 1);
        net.clear(0, 3);
        net.deliver(0, 1);
        net.deliver(1, 0);
        Nets.wordsAre(net, 1, 1, 4, "-1 3");
        net.deliver(1, 1);
        busyIs(net, 1, 1, 1);
        net.deliver(1, 1);
        busyIs(net, 1, 1, 0);
        Check.due("nothing is put", net.row(1, 1), 0);
        Check.due("nor on the other side", net.row(0, 1), 1);
    }

    private static void othersOnJoined() {
        CircuitNet net = Nets.open(0, 2);
        net.send(0, 3, 255);
        net.deliver(0, 1);
        Nets.frameIs(net, 4, 1, 0, 2, 0, 1, 1, 4, 3, 0, 255);
        Nets.settle(net);
        net.read(2, 1);
        net.deliver(2, 1);
        Nets.frameIs(net, 4, 0, 0, 2, 0, 1, 2, 5, 3, 1, 0);
        net.deliver(4, 0);
        Nets.frameIs(net, 0, 0, 0, 2, 0, 1, 2, 5, 3, 1, 0);
        Nets.settle(net);
        net.reset(2, 1);
        net.deliver(2, 1);
        Nets.frameIs(net, 4, 0, 0, 2, 0, 2, 2, 6, 3, 0, 0);
        Nets.deliverAll(net, 4, 0);
        Nets.deliverAll(net, 0, 0);
        Nets.deliverAll(net, 0, 1);
        Check.due("AGREED", net.frame(4, 1, net.frames(4, 1) - 1, 4), 7);
        busyIs(net, 4, 0, 1);
    }

    /** What was on its way when the other side cleared goes no further. */
    private static void othersOnClearing() {
        CircuitNet net = Nets.open(0, 1);
        net.send(0, 3, 1);
        net.send(1, 1, 2);
        Nets.settle(net);
        net.send(0, 3, 1);
        net.read(0, 3);
        net.reset(0, 3);
        net.clear(1, 1);
        net.deliver(1, 1);
        busyIs(net, 0, 1, 1);
        int row = net.row(1, 1);
        Nets.wordsAre(net, 0, 1, 4, "4 5 6");
        Nets.deliverAll(net, 0, 1);
        Check.due("DATA, TAKEN and RESET are not put", net.row(1, 1), row);
        busyIs(net, 0, 1, 1);
        CircuitNet answered = new CircuitNet();
        answered.call(0, 1);
        Nets.settle(answered);
        answered.answer(1, 1);
        answered.clear(0, 3);
        answered.deliver(0, 1);
        row = answered.row(0, 1);
        answered.deliver(1, 1);
        Check.due("ACCEPT is not put", answered.row(0, 1), row);
        CircuitNet agreed = Nets.open(0, 1);
        agreed.reset(0, 3);
        Nets.deliverAll(agreed, 0, 1);
        Nets.deliverAll(agreed, 1, 0);
        agreed.clear(0, 3);
        agreed.deliver(0, 1);
        row = agreed.row(0, 1);
        Nets.deliverAll(agreed, 1, 1);
        Check.due("AGREED is not put", agreed.row(0, 1), row);
    }

    private static void lostJoined() {
        CircuitNet net = Nets.open(0, 1);
        net.send(0, 3, 1);
        net.deliver(0, 1);
        net.deliver(0, 0);
        net.tick(15);
        busyIs(net, 1, 1, 1);
        Check.due("nothing yet", net.row(0, 1), 0);
        net.tick(1);
        busyIs(net, 1, 1, 0);
        busyIs(net, 0, 1, 1);
        Nets.frameIs(net, 0, 0, 0, 2, 0, 1, 2, 2, 3, 0, 0);
        net.deliver(0, 0);
        Check.due("the terminal beyond is IDLE", net.state(0, 3), 0);
    }

    private static void lostClearing() {
        CircuitNet net = Nets.open(0, 1);
        net.clear(0, 3);
        net.deliver(0, 1);
        Nets.deliverAll(net, 0, 0);
        Nets.deliverAll(net, 0, 1);
        busyIs(net, 1, 1, 1);
        net.tick(16);
        Check.due("failed", net.up(1, 1), false);
        busyIs(net, 1, 1, 0);
        Check.due("nothing is put on the other side", net.row(0, 1), 0);
        busyIs(net, 0, 1, 0);
    }

    private static void lostFree() {
        CircuitNet net = Nets.open(0, 1);
        net.clear(0, 3);
        net.deliver(0, 1);
        busyIs(net, 0, 1, 0);
        Nets.loseAll(net, 0, 0);
        Nets.deliverAll(net, 1, 0);
        Nets.deliverAll(net, 1, 1);
        Nets.deliverAll(net, 1, 0);
        busyIs(net, 1, 1, 0);
        net.call(1, 2);
        Nets.settle(net);
        busyIs(net, 1, 1, 1);
        net.tick(16);
        Check.due("end 1 of link 0 failed", net.epoch(0, 1), 1);
        busyIs(net, 1, 1, 1);
        Check.due("nothing is put for a FREE one", net.row(1, 1) + net.row(4, 0), 0);
    }
}
