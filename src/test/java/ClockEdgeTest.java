/** The edges of the document's terms: the clock, the count of tries, epochs, and ends that fail. */
public final class ClockEdgeTest {
    public static void main(String[] args) {
        clocks();
        frames();
        Check.edge("its clock grows by 1 .. When it is 4 then, it becomes 0", ClockEdgeTest::everyFourTicks);
        Check.edge("if it is SETTING or has an unconfirmed packet", ClockEdgeTest::whoseClockGrows);
        Check.edge("SETTING: it sends SET", ClockEdgeTest::setEveryFourTicks);
        Check.edge("UP, the count is 3: it FAILS", ClockEdgeTest::failsAtTheSixteenthTick);
        Check.edge("all unconfirmed packets are sent again as INFO, in their order (with DUE as it is now)",
                ClockEdgeTest::sentAgain);
        Check.edge("To FAIL: its epoch grows by 1, it breaks, is SETTING, and sends SET.",
                ClockEdgeTest::failsTwice);
        Check.edge("To BREAK: its row is empty, NEXT, FIRST, DUE, count and clock are 0",
                ClockEdgeTest::breaks);
        Check.edge("its channels are LOST, from 1 on", ClockEdgeTest::lostFromOneOn);
        Check.finish();
    }

    private static void clocks() {
        Check.edge("a CLOCK, both 0 when it is made UP (by SETTLED)", ClockEdgeTest::madeUpBySettled);
        Check.edge("a CLOCK, both 0 when it is made UP (by SET)", ClockEdgeTest::madeUpBySet);
        Check.edge("a CLOCK, both 0 .. when FIRST grows (the clock)", ClockEdgeTest::clockWhenFirstGrows);
        Check.edge("a CLOCK, both 0 .. when FIRST grows (the count)", ClockEdgeTest::countWhenFirstGrows);
        Check.edge("when FIRST grows (not when d is 0)", ClockEdgeTest::clockWhenFirstStands);
        Check.edge("the clock is 0, too, while it is UP and no packet is unconfirmed",
                ClockEdgeTest::clockAtRest);
    }

    private static void frames() {
        Check.edge("SET of epoch e arrives: when e is greater than the end's epoch",
                ClockEdgeTest::setOfAGreaterEpoch);
        Check.edge("SET of epoch e arrives: when e is greater (and the end is SETTING)",
                ClockEdgeTest::setOfAGreaterEpochWhileSetting);
        Check.edge("then, when e is its epoch, it sends SETTLED (while it is UP)",
                ClockEdgeTest::setOfItsEpochWhileUp);
        Check.edge("then, when e is its epoch, it sends SETTLED (while it is SETTING)",
                ClockEdgeTest::setOfItsEpochWhileSetting);
        Check.edge("SETTLED of its epoch arrives while it is SETTING: it is UP",
                ClockEdgeTest::settledWhileSetting);
        Check.edge("SETTLED .. while it is SETTING (not while it is UP)", ClockEdgeTest::settledWhileUp);
        Check.edge("SETTLED of its epoch (not of another)", ClockEdgeTest::settledOfALesserEpoch);
    }

    /** End 0 of link 0 is SETTING with epoch 1, its clock is 0, and nothing is under way on the link. */
    private static CircuitNet setting() {
        CircuitNet net = new CircuitNet();
        net.call(0, 1);
        net.tick(16);
        Nets.loseAll(net, 0, 1);
        Check.due("SETTING", net.up(0, 0), false);
        Check.due("epoch", net.epoch(0, 0), 1);
        return net;
    }

    /** An end whose clock begins now: it sends again at the ticks 4, 8, 12, and fails at 16. */
    private static void clockBeginsNow(CircuitNet net, int link, int end) {
        Nets.loseAll(net, link, 1 - end);
        for (int i = 0; i < 3; i++) {
            net.tick(3);
            Check.due("not yet sent again", net.frames(link, 1 - end), 0);
            net.tick(1);
            Check.due("sent again", net.frame(link, 1 - end, 0, 0), 2);
            Nets.loseAll(net, link, 1 - end);
        }
        net.tick(3);
        Check.due("not yet failed", net.up(link, end), true);
        net.tick(1);
        Check.due("failed", net.up(link, end), false);
        Nets.wordsAre(net, link, 1 - end, 0, "0");
    }

    private static void madeUpBySettled() {
        CircuitNet net = setting();
        net.tick(4);
        net.deliver(0, 1);
        net.tick(3);
        net.deliver(0, 0);
        Check.due("UP", net.up(0, 0), true);
        net.call(0, 1);
        clockBeginsNow(net, 0, 0);
    }

    private static void madeUpBySet() {
        CircuitNet net = Nets.open(0, 1);
        net.send(0, 3, 1);
        net.tick(8);
        Nets.loseAll(net, 0, 1);
        net.send(1, 1, 1);
        Nets.deliverAll(net, 1, 1);
        Nets.deliverAll(net, 1, 0);
        net.tick(11);
        Check.due("end 0 failed", net.up(0, 0), false);
        Check.due("end 1 has its second try behind it", net.frames(0, 0), 3);
        Nets.deliverLast(net, 0, 1);
        Check.due("end 1 follows", net.epoch(0, 1), 1);
        Nets.deliverAll(net, 1, 0);
        Nets.deliverAll(net, 1, 1);
        net.call(1, 0);
        net.deliver(1, 1);
        net.deliver(1, 0);
        Check.due("it has a packet", net.row(0, 1), 1);
        clockBeginsNow(net, 0, 1);
    }

    private static void clockWhenFirstGrows() {
        CircuitNet net = Nets.open(0, 1);
        net.send(0, 3, 1);
        net.send(0, 3, 2);
        net.tick(3);
        net.deliver(0, 1);
        net.deliver(0, 0);
        Check.due("one is left", net.row(0, 0), 1);
        clockBeginsNow(net, 0, 0);
    }

    private static void countWhenFirstGrows() {
        CircuitNet net = Nets.open(0, 1);
        net.send(0, 3, 1);
        net.send(0, 3, 2);
        net.tick(12);
        net.deliver(0, 1);
        net.deliver(0, 0);
        Check.due("one is left", net.row(0, 0), 1);
        clockBeginsNow(net, 0, 0);
    }

    private static void clockWhenFirstStands() {
        CircuitNet net = Nets.open(0, 1);
        net.send(0, 3, 1);
        net.send(0, 3, 2);
        net.lose(0, 1);
        net.deliver(0, 1);
        net.tick(3);
        net.deliver(0, 0);
        Check.due("none is confirmed", net.row(0, 0), 2);
        net.tick(1);
        Check.due("the clock went on", net.frames(0, 1), 2);
        net.tick(8);
        net.lose(0, 1);
        net.deliver(0, 1);
        net.deliver(0, 0);
        net.tick(4);
        Check.due("so did the count", net.up(0, 0), false);
    }

    private static void clockAtRest() {
        CircuitNet net = Nets.open(0, 1);
        net.tick(3);
        net.send(0, 3, 1);
        net.tick(3);
        Check.due("no tick counted at rest", net.frames(0, 1), 1);
        Nets.settle(net);
        net.tick(40);
        Check.due("nothing is sent at rest", net.frames(0, 1), 0);
        Check.due("nothing fails at rest", net.epoch(0, 0), 0);
        net.tick(3);
        net.send(0, 3, 2);
        clockBeginsNow(net, 0, 0);
    }

    private static void setOfAGreaterEpoch() {
        CircuitNet net = Nets.open(0, 1);
        net.send(0, 3, 1);
        net.tick(15);
        net.send(1, 1, 1);
        net.deliver(1, 1);
        net.tick(1);
        Check.due("row of end 1", net.row(0, 1), 1);
        Check.due("its channels", net.busy(0, 1), 1);
        Nets.loseAll(net, 0, 0);
        Nets.deliverLast(net, 0, 1);
        Check.due("its epoch is 1", net.epoch(0, 1), 1);
        Check.due("it is UP", net.up(0, 1), true);
        Check.due("its row is empty", net.row(0, 1), 0);
        Check.due("its channels are lost", net.busy(0, 1), 0);
        Nets.frameIs(net, 0, 0, 0, 1, 1);
        Check.due("alone", net.frames(0, 0), 1);
    }

    /** End 1 of link 0 SETTING with epoch 2, end 0 SETTING with 1, and SET under way both ways. */
    private static CircuitNet apart() {
        CircuitNet net = setting();
        net.tick(4);
        net.deliver(0, 1);
        net.call(1, 0);
        net.deliver(1, 1);
        Nets.loseAll(net, 0, 0);
        net.tick(16);
        Check.due("the one", net.epoch(0, 0), 1);
        Check.due("is SETTING", net.up(0, 0), false);
        Check.due("the other", net.epoch(0, 1), 2);
        Check.due("is SETTING", net.up(0, 1), false);
        return net;
    }

    private static void setOfAGreaterEpochWhileSetting() {
        CircuitNet net = apart();
        Nets.loseAll(net, 0, 1);
        Nets.deliverLast(net, 0, 0);
        Check.due("the SETTING end follows", net.epoch(0, 0), 2);
        Check.due("and is UP", net.up(0, 0), true);
        Nets.frameIs(net, 0, 1, 0, 1, 2);
        CircuitNet less = apart();
        Nets.loseAll(less, 0, 0);
        Nets.frameIs(less, 0, 1, 0, 0, 1);
        less.deliver(0, 1);
        Check.due("SET of a lesser epoch: no SETTLED", less.frames(0, 0), 0);
        Check.due("nor is it followed", less.epoch(0, 1), 2);
        Check.due("nor is the end UP", less.up(0, 1), false);
    }

    private static void setOfItsEpochWhileUp() {
        CircuitNet net = setting();
        net.tick(8);
        net.deliver(0, 1);
        net.call(1, 0);
        net.deliver(1, 1);
        net.deliver(1, 0);
        net.tick(3);
        Nets.wordsAre(net, 0, 0, 0, "1 2");
        net.deliver(0, 1);
        Nets.wordsAre(net, 0, 0, 0, "1 2 1");
        Check.due("the row stays", net.row(0, 1), 1);
        Check.due("the channels stay", net.busy(0, 1), 1);
        Check.due("the epoch stays", net.epoch(0, 1), 1);
        net.tick(1);
        Nets.wordsAre(net, 0, 0, 0, "1 2 1 2");
    }

    private static void setOfItsEpochWhileSetting() {
        CircuitNet net = Nets.open(0, 1);
        net.send(0, 3, 1);
        net.send(1, 1, 1);
        net.deliver(1, 1);
        net.tick(16);
        Check.due("both failed", net.epoch(0, 0) + net.epoch(0, 1), 2);
        Nets.loseAll(net, 0, 0);
        Nets.deliverLast(net, 0, 1);
        Check.due("still SETTING", net.up(0, 1), false);
        Nets.wordsAre(net, 0, 0, 0, "1");
        net.deliver(0, 0);
        Check.due("SETTLED makes the other UP", net.up(0, 0), true);
        net.tick(4);
        Check.due("and this one goes on with SET", net.frame(0, 0, 0, 0), 0);
    }

    private static void settledWhileSetting() {
        CircuitNet net = setting();
        net.tick(4);
        net.deliver(0, 1);
        Nets.frameIs(net, 0, 0, 0, 1, 1);
        Check.due("not UP before", net.up(0, 0), false);
        Check.due("call", net.call(0, 1), -1);
        net.deliver(0, 0);
        Check.due("UP", net.up(0, 0), true);
        Check.due("it answers nothing", net.frames(0, 1), 0);
        Check.due("call", net.call(0, 1), 3);
    }

    /** Two SETTLED are under way to the SETTING end 0 of link 0. */
    private static CircuitNet settledTwice() {
        CircuitNet net = setting();
        net.tick(8);
        net.deliver(0, 1);
        net.deliver(0, 1);
        Nets.wordsAre(net, 0, 0, 0, "1 1");
        return net;
    }

    private static void settledWhileUp() {
        CircuitNet net = settledTwice();
        net.deliver(0, 0);
        net.call(0, 1);
        net.tick(3);
        net.deliver(0, 0);
        Check.due("the row stays", net.row(0, 0), 1);
        Check.due("frames", net.frames(0, 1), 1);
        net.tick(1);
        Check.due("the clock went on", net.frames(0, 1), 2);
    }

    private static void settledOfALesserEpoch() {
        CircuitNet net = settledTwice();
        net.deliver(0, 0);
        net.call(0, 1);
        net.tick(16);
        Check.due("failed again", net.epoch(0, 0), 2);
        Nets.frameIs(net, 0, 0, 0, 1, 1);
        net.deliver(0, 0);
        Check.due("still SETTING", net.up(0, 0), false);
        Check.due("epoch", net.epoch(0, 0), 2);
    }

    private static void everyFourTicks() {
        CircuitNet net = new CircuitNet();
        net.call(3, 0);
        for (int t = 1; t <= 12; t++) {
            net.tick(1);
            Check.due("frames after tick " + t, net.frames(3, 1), 1 + t / 4);
        }
    }

    private static void whoseClockGrows() {
        CircuitNet net = setting();
        net.tick(4);
        Check.due("SETTING, and nothing unconfirmed", net.frames(0, 1), 1);
        for (int link = 0; link < 5; link++) {
            Check.due("UP, and nothing unconfirmed", net.frames(link, 0), 0);
        }
        net.call(1, 0);
        net.tick(4);
        Check.due("UP, and one unconfirmed", net.frames(1, 1), 2);
    }

    private static void setEveryFourTicks() {
        CircuitNet net = setting();
        for (int i = 0; i < 10; i++) {
            net.tick(3);
            Check.due("not yet", net.frames(0, 1), 0);
            net.tick(1);
            Nets.frameIs(net, 0, 1, 0, 0, 1);
            net.lose(0, 1);
        }
        Check.due("it never fails again", net.epoch(0, 0), 1);
    }

    private static void failsAtTheSixteenthTick() {
        CircuitNet net = new CircuitNet();
        net.call(3, 0);
        net.tick(15);
        Check.due("15: UP", net.up(3, 0), true);
        Check.due("15: epoch", net.epoch(3, 0), 0);
        Check.due("15: CALLING", net.state(3, 3), 1);
        Nets.wordsAre(net, 3, 1, 0, "2 2 2 2");
        net.tick(1);
        Check.due("16: SETTING", net.up(3, 0), false);
        Check.due("16: epoch", net.epoch(3, 0), 1);
        Check.due("16: IDLE", net.state(3, 3), 0);
        Nets.wordsAre(net, 3, 1, 0, "2 2 2 2 0");
    }

    private static void sentAgain() {
        CircuitNet net = Nets.open(0, 1);
        net.send(0, 3, 5);
        net.send(0, 3, 6);
        net.send(0, 3, 7);
        net.call(0, 2);
        net.call(0, 3);
        Nets.wordsAre(net, 0, 1, 3, "1 1 1 1");
        net.send(1, 1, 9);
        net.deliver(1, 1);
        net.deliver(0, 0);
        Nets.loseAll(net, 0, 1);
        net.tick(4);
        Nets.wordsAre(net, 0, 1, 2, "1 2 3 4");
        Nets.wordsAre(net, 0, 1, 3, "2 2 2 2");
        Nets.wordsAre(net, 0, 1, 4, "4 4 4 0");
        Nets.wordsAre(net, 0, 1, 7, "5 6 7 0");
    }

    private static void failsTwice() {
        CircuitNet net = setting();
        net.tick(4);
        Nets.settle(net);
        Check.due("UP again", net.up(0, 0), true);
        net.call(0, 1);
        net.tick(16);
        Check.due("epoch", net.epoch(0, 0), 2);
        Check.due("of the other end", net.epoch(0, 1), 1);
        Check.due("SETTING", net.up(0, 0), false);
        Check.due("broken", net.busy(0, 0), 0);
        Nets.frameIs(net, 0, 1, 4, 0, 2);
        Check.due("SET once", net.frames(0, 1), 5);
        Nets.deliverLast(net, 0, 1);
        Check.due("the other end follows", net.epoch(0, 1), 2);
        Nets.settle(net);
        Check.due("UP once more", net.up(0, 0), true);
    }

    private static void breaks() {
        CircuitNet net = Nets.open(0, 1);
        Nets.pass(net, 0, 1, 2);
        net.send(0, 3, 1);
        net.send(0, 3, 2);
        net.send(0, 3, 3);
        net.call(0, 2);
        net.call(0, 3);
        Check.due("row with one that waits", net.row(0, 0), 5);
        net.tick(16);
        Check.due("the row is empty", net.row(0, 0), 0);
        Check.due("no channel is used", net.busy(0, 0), 0);
        Nets.loseAll(net, 0, 1);
        net.tick(4);
        Nets.settle(net);
        Check.due("UP again", net.up(0, 0) && net.up(0, 1), true);
        net.call(0, 1);
        Nets.frameIs(net, 0, 1, 0, 2, 1, 0, 0, 0, 3, 1, 0);
        net.deliver(0, 1);
        Nets.frameIs(net, 0, 0, 0, 3, 1, -1, 1);
        net.deliver(0, 0);
        Check.due("FIRST was 0", net.row(0, 0), 0);
        Nets.settle(net);
        net.answer(1, 1);
        net.deliver(1, 1);
        Nets.frameIs(net, 0, 0, 0, 2, 1, 0, 1, 1, 3, 0, 0);
        net.deliver(0, 0);
        Check.due("DUE was 0", net.state(0, 3), 3);
    }

    private static void lostFromOneOn() {
        CircuitNet net = new CircuitNet();
        net.call(0, 2);
        net.call(0, 2);
        net.call(0, 3);
        Nets.settle(net);
        net.answer(2, 1);
        net.deliver(2, 1);
        net.deliver(4, 0);
        Nets.deliverAll(net, 2, 0);
        Nets.deliverAll(net, 4, 1);
        Check.due("ACCEPT waits for READY", net.row(0, 1), 1);
        net.tick(16);
        Check.due("failed", net.up(0, 1), false);
        Check.due("no channel is used", net.busy(0, 1), 0);
        Nets.wordsAre(net, 4, 1, 4, "2 2 2");
        Nets.wordsAre(net, 4, 1, 5, "1 2 3");
        Check.due("the partners are CLEARING", net.busy(4, 0), 3);
        Nets.deliverLast(net, 0, 0);
        Check.due("SET loses the channels of the terminal",
                net.state(0, 1) + net.state(0, 2) + net.state(0, 3), 0);
    }
}
