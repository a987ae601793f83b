/** The edges of the document's terms: frames under way, rows, windows, and numbers that wrap. */
public final class FrameEdgeTest {
    public static void main(String[] args) {
        Check.edge("UNDER WAY to each end are at most eight FRAMES", FrameEdgeTest::eightToEachEnd);
        Check.edge("in the order in which they were sent", FrameEdgeTest::orderOfFrames);
        lostFrames();
        Check.edge("they are UNCONFIRMED, at most four; the others wait",
                FrameEdgeTest::fourUnconfirmed);
        Check.edge("NEXT, the number that the next packet gets that is sent .. modulo 8",
                FrameEdgeTest::nextWraps);
        Check.edge("FIRST, that of the first unconfirmed one .. modulo 8", FrameEdgeTest::firstWraps);
        Check.edge("DUE, that of the packet that it expects .. modulo 8", FrameEdgeTest::dueWraps);
        Check.edge("A packet that is PUT into the row of an end comes last.", FrameEdgeTest::putLast);
        Check.edge("while .. a packet waits, and fewer than four are unconfirmed",
                FrameEdgeTest::sendsOnUpToFour);
        Check.edge("It does so whenever a packet is put into its row", FrameEdgeTest::sentAtOnce);
        Check.edge("if d is not above the number of unconfirmed packets, the first d packets leave the row",
                FrameEdgeTest::confirmsNoneToAll);
        Check.edge("FIRST grows by d, and it sends on. Then for INFO: if its number is DUE, DUE grows by 1",
                FrameEdgeTest::sendsOnBeforeDueGrows);
        Check.edge("if its number is DUE, DUE grows by 1; READY is sent", FrameEdgeTest::numberIsNotDue);
        Check.edge("and then, if DUE grew, the packet ARRIVES at the node",
                FrameEdgeTest::readyComesBeforeTheArrival);
        Check.edge("INFO and READY arrive: nothing, if it is not UP", FrameEdgeTest::nothingWhileSetting);
        Check.finish();
    }

    private static void lostFrames() {
        String sentence = "a frame that is sent when there are eight is lost";
        Check.edge(sentence + " (INFO, the eighth and the ninth)", FrameEdgeTest::eighthAndNinth);
        Check.edge(sentence + " (INFO, that was never sent before)", FrameEdgeTest::lostFirstSending);
        Check.edge(sentence + " (READY)", FrameEdgeTest::lostReady);
        Check.edge(sentence + " (SET)", FrameEdgeTest::lostSet);
        Check.edge(sentence + " (SETTLED)", FrameEdgeTest::lostSettled);
    }

    /** Three values that wait for READY on link 0: from end 0 at the terminal. */
    private static CircuitNet threeFromTheTerminal() {
        CircuitNet net = Nets.open(0, 1);
        for (int v = 10; v < 13; v++) {
            net.send(0, 3, v);
        }
        return net;
    }

    /** The same from end 1 at the switch, while nothing else is unconfirmed. */
    private static void threeFromTheSwitch(CircuitNet net) {
        for (int v = 20; v < 23; v++) {
            net.send(1, 1, v);
        }
        Nets.deliverAll(net, 1, 1);
        Nets.deliverAll(net, 1, 0);
    }

    private static void eightToEachEnd() {
        CircuitNet net = threeFromTheTerminal();
        threeFromTheSwitch(net);
        net.tick(4);
        Check.due("six to end 1", net.frames(0, 1), 6);
        Check.due("six to end 0", net.frames(0, 0), 6);
        net.tick(4);
        Check.due("eight to end 1, not nine", net.frames(0, 1), 8);
        Check.due("eight to end 0, too", net.frames(0, 0), 8);
        Nets.wordsAre(net, 0, 1, 7, "10 11 12 10 11 12 10 11");
        Nets.wordsAre(net, 0, 0, 7, "20 21 22 20 21 22 20 21");
        net.tick(4);
        Check.due("still eight", net.frames(0, 1), 8);
        Check.due("no frame 8", net.frame(0, 1, 8, 0), -1);
        Check.due("other links have room", net.call(1, 0), 3);
        Check.due("of their own", net.frames(1, 1), 1);
    }

    private static void orderOfFrames() {
        CircuitNet net = threeFromTheTerminal();
        net.lose(0, 1);
        net.lose(0, 1);
        net.tick(4);
        Nets.wordsAre(net, 0, 1, 2, "3 1 2 3");
        net.tick(4);
        Nets.wordsAre(net, 0, 1, 2, "3 1 2 3 1 2 3");
        for (int i = 0; i < 5; i++) {
            net.lose(0, 1);
        }
        Nets.wordsAre(net, 0, 1, 2, "2 3");
        net.call(0, 2);
        Nets.wordsAre(net, 0, 1, 2, "2 3 4");
        net.tick(4);
        Nets.wordsAre(net, 0, 1, 2, "2 3 4 1 2 3 4");
        Nets.wordsAre(net, 0, 1, 7, "11 12 0 10 11 12 0");
        Nets.deliverAll(net, 0, 1);
        Nets.wordsAre(net, 0, 0, 3, "1 1 1 2 3 4 5");
    }

    private static void eighthAndNinth() {
        CircuitNet net = threeFromTheTerminal();
        net.call(0, 2);
        net.tick(4);
        Check.due("the eighth is under way", net.frames(0, 1), 8);
        Nets.wordsAre(net, 0, 1, 2, "1 2 3 4 1 2 3 4");
        net.tick(4);
        Nets.wordsAre(net, 0, 1, 2, "1 2 3 4 1 2 3 4");
        net.lose(0, 1);
        net.tick(4);
        Nets.wordsAre(net, 0, 1, 2, "2 3 4 1 2 3 4 1");
        Check.due("what was lost stays in the row", net.row(0, 0), 4);
    }

    private static void lostFirstSending() {
        CircuitNet net = threeFromTheTerminal();
        net.tick(8);
        Check.due("eight", net.frames(0, 1), 8);
        Check.due("call", net.call(0, 2), 2);
        Nets.wordsAre(net, 0, 1, 2, "1 2 3 1 2 3 1 2");
        Check.due("row", net.row(0, 0), 4);
        Nets.loseAll(net, 0, 1);
        net.call(0, 3);
        Check.due("the lost one counts as unconfirmed, a fifth waits", net.frames(0, 1), 0);
        net.tick(4);
        Nets.wordsAre(net, 0, 1, 2, "1 2 3 4");
        Nets.frameIs(net, 0, 1, 3, 2, 0, 4, 1, 0, 2, 2, 0);
        Nets.settle(net);
        Check.due("all came", net.row(0, 0), 0);
        Check.due("it rings", net.state(2, 1), 2);
    }

    private static void lostReady() {
        CircuitNet net = Nets.open(0, 1);
        threeFromTheSwitch(net);
        net.tick(8);
        Check.due("eight", net.frames(0, 0), 8);
        net.send(0, 3, 1);
        net.deliver(0, 1);
        Nets.wordsAre(net, 0, 0, 0, "2 2 2 2 2 2 2 2");
        Check.due("the packet arrives all the same", net.frames(1, 0), 1);
        Nets.loseAll(net, 0, 0);
        net.tick(4);
        Nets.loseAll(net, 0, 0);
        net.deliver(0, 1);
        Nets.frameIs(net, 0, 0, 0, 3, 0, -1, 2);
        Check.due("but once", net.frames(1, 0), 2);
        net.deliver(0, 0);
        Check.due("confirmed now", net.row(0, 0), 0);
    }

    private static void lostSet() {
        CircuitNet net = threeFromTheTerminal();
        net.tick(16);
        Check.due("failed", net.up(0, 0), false);
        Nets.wordsAre(net, 0, 1, 0, "2 2 2 2 2 2 2 2");
        net.lose(0, 1);
        net.tick(3);
        Check.due("not yet", net.frames(0, 1), 7);
        net.tick(1);
        Nets.wordsAre(net, 0, 1, 0, "2 2 2 2 2 2 2 0");
        net.tick(4);
        Check.due("the next is lost again", net.frames(0, 1), 8);
    }

    private static void lostSettled() {
        CircuitNet net = Nets.open(0, 1);
        net.send(0, 3, 1);
        net.tick(8);
        Nets.loseAll(net, 0, 1);
        threeFromTheSwitch(net);
        net.tick(8);
        Check.due("end 0 failed", net.up(0, 0), false);
        Check.due("end 1 did not", net.epoch(0, 1), 0);
        Nets.wordsAre(net, 0, 0, 0, "2 2 2 2 2 2 2 2");
        Nets.deliverLast(net, 0, 1);
        Check.due("end 1 follows", net.epoch(0, 1), 1);
        Nets.wordsAre(net, 0, 0, 0, "2 2 2 2 2 2 2 2");
        Nets.deliverAll(net, 0, 0);
        Check.due("end 0 heard nothing", net.up(0, 0), false);
        net.tick(4);
        Nets.deliverAll(net, 0, 1);
        Nets.wordsAre(net, 0, 0, 0, "1");
        net.deliver(0, 0);
        Check.due("now it did", net.up(0, 0), true);
    }

    private static void fourUnconfirmed() {
        CircuitNet net = threeFromTheTerminal();
        Check.due("three are sent", net.frames(0, 1), 3);
        net.call(0, 2);
        Check.due("so is the fourth", net.frames(0, 1), 4);
        net.call(0, 3);
        Check.due("the fifth waits", net.frames(0, 1), 4);
        Check.due("in the row", net.row(0, 0), 5);
        Nets.loseAll(net, 0, 1);
        net.tick(4);
        Nets.wordsAre(net, 0, 1, 2, "1 2 3 4");
        net.deliver(0, 1);
        Check.due("it waits until", net.frames(0, 1), 3);
        net.deliver(0, 0);
        Nets.wordsAre(net, 0, 1, 2, "2 3 4 5");
    }

    private static void nextWraps() {
        CircuitNet net = Nets.open(0, 1);
        Nets.pass(net, 0, 1, 5);
        net.send(0, 3, 1);
        net.send(0, 3, 2);
        net.send(0, 3, 3);
        net.call(0, 2);
        Nets.wordsAre(net, 0, 1, 2, "6 7 0 1");
        net.tick(4);
        Nets.wordsAre(net, 0, 1, 2, "6 7 0 1 6 7 0 1");
    }

    private static void firstWraps() {
        CircuitNet net = Nets.open(0, 1);
        Nets.pass(net, 0, 1, 5);
        net.send(0, 3, 1);
        net.send(0, 3, 2);
        net.send(0, 3, 3);
        net.call(0, 2);
        Nets.deliverAll(net, 0, 1);
        Nets.wordsAre(net, 0, 0, 3, "7 0 1 2");
        for (int left = 3; left >= 0; left--) {
            net.deliver(0, 0);
            Check.due("row", net.row(0, 0), left);
        }
        CircuitNet leap = Nets.open(0, 1);
        Nets.pass(leap, 0, 1, 6);
        leap.send(0, 3, 1);
        leap.send(0, 3, 2);
        leap.send(0, 3, 3);
        Nets.wordsAre(leap, 0, 1, 2, "7 0 1");
        leap.deliver(0, 1);
        leap.deliver(0, 1);
        Nets.deliverLast(leap, 0, 0);
        Check.due("d is 2 from 7 to 1", leap.row(0, 0), 1);
    }

    private static void dueWraps() {
        CircuitNet net = Nets.open(0, 1);
        Nets.pass(net, 0, 1, 5);
        net.send(0, 3, 1);
        net.send(0, 3, 2);
        Nets.deliverAll(net, 0, 1);
        Nets.wordsAre(net, 0, 0, 3, "7 0");
        Nets.loseAll(net, 0, 0);
        Nets.deliverAll(net, 1, 0);
        Nets.deliverAll(net, 1, 1);
        net.tick(4);
        Nets.wordsAre(net, 0, 1, 2, "6 7");
        Nets.deliverAll(net, 0, 1);
        Nets.wordsAre(net, 0, 0, 3, "0 0");
        Check.due("7 is not due again when 0 is", net.frames(1, 0), 0);
        net.send(0, 3, 3);
        net.deliver(0, 1);
        Check.due("0 is due after 7", net.frames(1, 0), 1);
        Nets.wordsAre(net, 0, 0, 3, "0 0 1");
    }

    private static void putLast() {
        CircuitNet net = Nets.open(0, 1);
        net.send(0, 3, 7);
        net.call(0, 2);
        net.call(0, 3);
        net.clear(0, 2);
        net.send(0, 3, 8);
        net.clear(0, 1);
        Nets.wordsAre(net, 0, 1, 4, "4 0 0 2");
        Nets.deliverAll(net, 0, 1);
        Nets.deliverAll(net, 0, 0);
        // the last frame is READY for the CLEARED that came back
        Nets.wordsAre(net, 0, 1, 4, "4 2 -1");
        Nets.wordsAre(net, 0, 1, 5, "3 1 -1");
    }

    private static void sendsOnUpToFour() {
        CircuitNet net = threeFromTheTerminal();
        net.call(0, 2);
        net.call(0, 2);
        net.clear(0, 2);
        net.clear(0, 1);
        Check.due("row", net.row(0, 0), 7);
        Nets.wordsAre(net, 0, 1, 2, "1 2 3 4");
        net.deliver(0, 1);
        net.deliver(0, 1);
        Nets.deliverLast(net, 0, 0);
        Check.due("two left", net.row(0, 0), 5);
        Nets.wordsAre(net, 0, 1, 2, "3 4 5 6");
        Nets.deliverAll(net, 0, 1);
        Nets.deliverLast(net, 0, 0);
        Check.due("four left", net.row(0, 0), 1);
        // the last frame is READY for the CLEARED that came back
        Nets.wordsAre(net, 0, 1, 2, "7 -1");
    }

    private static void sentAtOnce() {
        CircuitNet net = new CircuitNet();
        net.call(2, 3);
        Check.due("CALL of a terminal", net.frames(2, 1), 1);
        net.deliver(2, 1);
        Check.due("CALL of a switch", net.frames(3, 0), 1);
        net.deliver(3, 0);
        Nets.loseAll(net, 3, 1);
        net.clear(3, 1);
        Check.due("CLEAR", net.frames(3, 1), 1);
    }

    private static void confirmsNoneToAll() {
        for (int d = 0; d <= 4; d++) {
            CircuitNet net = threeFromTheTerminal();
            net.call(0, 2);
            if (d == 0) {
                net.lose(0, 1);
                net.deliver(0, 1);
            }
            for (int i = 0; i < d; i++) {
                net.deliver(0, 1);
            }
            Nets.deliverLast(net, 0, 0);
            Check.due("row after READY with d = " + d, net.row(0, 0), 4 - d);
            Nets.loseAll(net, 0, 1);
            net.tick(4);
            Check.due("the others are unconfirmed", net.frames(0, 1), 4 - d);
        }
    }

    private static void sendsOnBeforeDueGrows() {
        CircuitNet net = threeFromTheTerminal();
        net.call(0, 2);
        net.call(0, 2);
        net.deliver(0, 1);
        net.lose(0, 0);
        net.send(1, 1, 5);
        net.deliver(1, 1);
        Nets.frameIs(net, 0, 0, 0, 2, 0, 1, 2, 4, 3, 0, 5);
        net.deliver(0, 0);
        Nets.wordsAre(net, 0, 1, 0, "2 2 2 2 3");
        Nets.wordsAre(net, 0, 1, 3, "1 1 1 1 2");
    }

    private static void numberIsNotDue() {
        CircuitNet net = threeFromTheTerminal();
        net.lose(0, 1);
        net.deliver(0, 1);
        Nets.wordsAre(net, 0, 0, 3, "1");
        Check.due("one above DUE does not arrive", net.frames(1, 0), 0);
        net.lose(0, 1);
        net.tick(4);
        net.deliver(0, 1);
        Check.due("DUE arrives", net.frames(1, 0), 1);
        net.deliver(1, 0);
        net.deliver(1, 1);
        Nets.loseAll(net, 0, 1);
        net.tick(4);
        net.deliver(0, 1);
        Nets.wordsAre(net, 0, 0, 3, "1 2 2");
        Check.due("one below DUE does not", net.frames(1, 0), 0);
    }

    /** READY stands before the CLEAR that the arrival puts into the same end's row. */
    private static void readyComesBeforeTheArrival() {
        CircuitNet net = Nets.open(0, 1);
        net.clear(0, 3);
        net.deliver(0, 1);
        Nets.wordsAre(net, 0, 0, 0, "3 2");
        Nets.wordsAre(net, 0, 0, 3, "2 2");
        CircuitNet reset = Nets.open(0, 1);
        reset.reset(0, 3);
        Nets.deliverAll(reset, 0, 1);
        Nets.deliverAll(reset, 1, 0);
        Nets.wordsAre(reset, 1, 1, 0, "3 2");
        Nets.wordsAre(reset, 1, 1, 4, "-1 7");
    }

    private static void nothingWhileSetting() {
        CircuitNet net = Nets.open(0, 1);
        net.send(0, 3, 1);
        net.tick(15);
        net.send(1, 1, 2);
        net.deliver(1, 1);
        Nets.deliverLast(net, 0, 1);
        net.tick(1);
        Check.due("SETTING", net.up(0, 0), false);
        Nets.loseAll(net, 0, 1);
        Nets.wordsAre(net, 0, 0, 0, "2 3");
        net.deliver(0, 0);
        net.deliver(0, 0);
        Check.due("INFO and READY are met with silence", net.frames(0, 1), 0);
        Check.due("and do not arrive", net.state(0, 3), 0);
        CircuitNet both = ofItsOwnEpoch();
        int before = both.frames(0, 0);
        both.deliver(0, 1);
        Check.due("INFO of its own epoch: no READY", both.frames(0, 0), before);
        Check.due("nor does it arrive", both.busy(0, 1), 0);
        Check.due("nor is it UP", both.up(0, 1), false);
    }

    /** End 1 of link 0 is SETTING, and INFO of its very epoch is the first frame to it. */
    private static CircuitNet ofItsOwnEpoch() {
        CircuitNet net = Nets.open(0, 1);
        net.send(0, 3, 1);
        net.send(1, 1, 1);
        net.deliver(1, 1);
        net.tick(16);
        Nets.deliverLast(net, 0, 1);
        Nets.deliverLast(net, 0, 0);
        Check.due("end 0 is UP", net.up(0, 0), true);
        Check.due("end 1 is SETTING", net.up(0, 1), false);
        Nets.loseAll(net, 0, 1);
        net.call(0, 1);
        Nets.frameIs(net, 0, 1, 0, 2, 1, 0, 0, 0, 3, 1, 0);
        return net;
    }
}
