/** Promises 8 to 10 and 14 to 18: frames, the link layer, and time. */
public final class LinkTest {
    public static void main(String[] args) {
        deliverAndLose();
        windowOfFour();
        confirmByInfo();
        eightFrames();
        duplicates();
        gaps();
        clockStartsAnew();
        triesAndFailure();
        setAndSettled();
        bothFail();
        epochsDiffer();
        longTick();
        numbersWrap();
        ticksGoRound();
        settingSendsSet();
        resendCarriesDue();
        longRow();
        Check.finish();
    }

    private static void deliverAndLose() {
        CircuitNet net = new CircuitNet();
        Check.due("deliver nothing", net.deliver(0, 1), false);
        Check.due("lose nothing", net.lose(0, 1), false);
        net.call(0, 1);
        net.call(0, 2);
        Check.due("frames", net.frames(0, 1), 2);
        Check.due("frames to the other end", net.frames(0, 0), 0);
        Check.due("lose", net.lose(0, 1), true);
        Check.due("frames", net.frames(0, 1), 1);
        Nets.frameIs(net, 0, 1, 0, 2, 0, 1, 0, 0, 2, 2, 0);
        Check.due("a lost frame does not arrive", net.busy(0, 1), 0);
        Check.due("the row keeps it", net.row(0, 0), 2);
        Check.due("lose", net.lose(0, 1), true);
        Check.due("no more", net.lose(0, 1), false);
    }

    private static void windowOfFour() {
        CircuitNet net = Nets.open(0, 1);
        net.send(0, 3, 1);
        net.send(0, 3, 2);
        net.send(0, 3, 3);
        net.call(0, 2);
        Check.due("four are under way", net.frames(0, 1), 4);
        net.call(0, 3);
        Check.due("the fifth waits", net.frames(0, 1), 4);
        Check.due("in the row", net.row(0, 0), 5);
        net.deliver(0, 1);
        net.deliver(0, 1);
        Check.due("two READY", net.frames(0, 0), 2);
        Nets.frameIs(net, 0, 0, 0, 3, 0, -1, 2);
        Nets.frameIs(net, 0, 0, 1, 3, 0, -1, 3);
        net.lose(0, 0);
        net.deliver(0, 0);
        Check.due("one READY confirms both", net.row(0, 0), 3);
        Check.due("and the fifth is sent", net.frames(0, 1), 3);
        Nets.frameIs(net, 0, 1, 2, 2, 0, 5, 1, 0, 1, 3, 0);
    }

    private static void confirmByInfo() {
        CircuitNet net = Nets.open(0, 1);
        net.send(0, 3, 1);
        net.deliver(0, 1);
        net.lose(0, 0);
        Check.due("unconfirmed", net.row(0, 0), 1);
        net.send(1, 1, 2);
        net.deliver(1, 1);
        net.deliver(0, 0);
        Check.due("the due of an INFO confirms, too", net.row(0, 0), 0);
        Check.due("and its packet arrives", net.unread(0, 3), 1);
    }

    private static void eightFrames() {
        CircuitNet net = Nets.open(0, 1);
        net.send(0, 3, 1);
        net.send(0, 3, 2);
        net.send(0, 3, 3);
        net.tick(8);
        Check.due("the ninth is lost", net.frames(0, 1), 8);
        Check.due("number of the eighth", net.frame(0, 1, 7, 2), 2);
        Check.due("no frame 8", net.frame(0, 1, 8, 0), -1);
        net.lose(0, 1);
        Check.due("there is room again", net.frames(0, 1), 7);
        Check.due("call", net.call(0, 2), 2);
        Check.due("call", net.call(0, 2), 1);
        Check.due("eight again", net.frames(0, 1), 8);
        Check.due("the last but lost one is the CALL", net.frame(0, 1, 7, 5), 2);
        Check.due("the row keeps what was lost", net.row(0, 0), 5);
    }

    private static void duplicates() {
        CircuitNet net = Nets.open(0, 1);
        net.send(0, 3, 1);
        net.tick(4);
        Check.due("sent twice", net.frames(0, 1), 2);
        net.deliver(0, 1);
        net.deliver(0, 1);
        Check.due("READY for both", net.frames(0, 0), 2);
        Nets.frameIs(net, 0, 0, 1, 3, 0, -1, 2);
        Nets.settle(net);
        Check.due("but the value came once", net.unread(1, 1), 1);
    }

    private static void gaps() {
        CircuitNet net = Nets.open(0, 1);
        net.send(0, 3, 1);
        net.send(0, 3, 2);
        net.lose(0, 1);
        net.deliver(0, 1);
        Nets.frameIs(net, 0, 0, 0, 3, 0, -1, 1);
        Check.due("what is not due does not arrive", net.frames(1, 0), 0);
        net.deliver(0, 0);
        Check.due("nor is it confirmed", net.row(0, 0), 2);
        net.tick(4);
        Nets.settle(net);
        Check.due("sent again", net.unread(1, 1), 2);
        Check.due("in order", net.read(1, 1), 1);
        Check.due("in order", net.read(1, 1), 2);
    }

    private static void clockStartsAnew() {
        CircuitNet net = Nets.open(0, 1);
        net.tick(3);
        net.send(0, 3, 1);
        net.tick(3);
        Check.due("no clock without unconfirmed packets", net.frames(0, 1), 1);
        net.send(0, 3, 2);
        net.tick(1);
        Check.due("all unconfirmed are sent again", net.frames(0, 1), 4);
        net.tick(3);
        net.deliver(0, 1);
        net.deliver(0, 0);
        net.tick(3);
        Check.due("FIRST grew: the clock began anew", net.frames(0, 1), 3);
        net.tick(1);
        Check.due("the other one is sent again", net.frames(0, 1), 4);
        Nets.loseAll(net, 0, 1);
        net.tick(8);
        Check.due("the tries began anew", net.up(0, 0), true);
        net.tick(4);
        Check.due("up to the third", net.up(0, 0), false);
    }

    private static void triesAndFailure() {
        CircuitNet net = Nets.open(0, 2);
        net.send(0, 3, 1);
        for (int i = 0; i < 3; i++) {
            net.lose(0, 1);
            net.tick(3);
            Check.due("not yet", net.frames(0, 1), 0);
            net.tick(1);
            Check.due("sent again", net.frames(0, 1), 1);
        }
        net.lose(0, 1);
        net.tick(3);
        Check.due("up", net.up(0, 0), true);
        Check.due("row", net.row(0, 0), 1);
        net.tick(1);
        Check.due("failed", net.up(0, 0), false);
        Check.due("epoch", net.epoch(0, 0), 1);
        Check.due("epoch of the other end", net.epoch(0, 1), 0);
        Check.due("row", net.row(0, 0), 0);
        Check.due("state", net.state(0, 3), 0);
        Check.due("busy", net.busy(0, 0), 0);
        Check.due("frames", net.frames(0, 1), 1);
        Nets.frameIs(net, 0, 1, 0, 0, 1);
        net.tick(3);
        Check.due("SET is alone", net.frames(0, 1), 1);
        net.tick(1);
        Check.due("SET is sent again", net.frames(0, 1), 2);
        Check.due("without end", net.epoch(0, 0), 1);
    }

    private static void setAndSettled() {
        CircuitNet net = Nets.open(0, 1);
        net.send(0, 3, 1);
        net.send(0, 3, 2);
        net.tick(16);
        net.send(1, 1, 4);
        net.deliver(1, 1);
        Check.due("row of the other end", net.row(0, 1), 1);
        Check.due("its INFO is of epoch 0", net.frame(0, 0, 0, 1), 0);
        net.deliver(0, 0);
        Check.due("INFO of another epoch: no READY", net.frames(0, 1), 8);
        Nets.loseAll(net, 0, 1);
        net.tick(4);
        net.deliver(0, 1);
        Check.due("epoch follows", net.epoch(0, 1), 1);
        Check.due("it is up", net.up(0, 1), true);
        Check.due("its row is empty", net.row(0, 1), 0);
        Check.due("its channels are lost", net.busy(0, 1), 0);
        Nets.frameIs(net, 0, 0, net.frames(0, 0) - 1, 1, 1);
        Check.due("the partner is CLEARING", net.busy(1, 1), 1);
        Nets.deliverAll(net, 0, 0);
        Check.due("settled", net.up(0, 0), true);
        Nets.settle(net);
        Check.due("the circuit is cleared", net.state(1, 1), 0);
        Check.due("call over the new epoch", net.call(0, 1), 3);
        Nets.frameIs(net, 0, 1, 0, 2, 1, 0, 0, 0, 3, 1, 0);
        Nets.settle(net);
        Check.due("it rings", net.state(1, 1), 2);
        net.tick(40);
        Check.due("nothing fails at rest", net.epoch(0, 0) + net.epoch(1, 0), 1);
    }

    private static void bothFail() {
        CircuitNet net = Nets.open(0, 1);
        net.send(0, 3, 1);
        net.send(1, 1, 1);
        net.deliver(1, 1);
        Check.due("frames", net.frames(0, 0), 1);
        net.tick(16);
        Check.due("epoch of the one", net.epoch(0, 0), 1);
        Check.due("epoch of the other", net.epoch(0, 1), 1);
        Nets.deliverAll(net, 0, 1);
        Check.due("SET of its own epoch does not make it UP", net.up(0, 1), false);
        Check.due("but it sends SETTLED", net.frame(0, 0, net.frames(0, 0) - 1, 0), 1);
        Nets.deliverAll(net, 0, 0);
        Check.due("the one is UP", net.up(0, 0), true);
        Check.due("call", net.call(0, 1), 3);
        int last = net.frames(0, 1) - 1;
        Check.due("INFO", net.frame(0, 1, last, 0), 2);
        Check.due("the other is SETTING", net.up(0, 1), false);
        net.deliver(0, 1);
        Check.due("SETTLED makes it UP", net.up(0, 1), true);
        Nets.settle(net);
        Check.due("epochs", net.epoch(0, 0) + net.epoch(0, 1), 2);
    }

    private static void epochsDiffer() {
        CircuitNet net = new CircuitNet();
        net.call(0, 1);
        net.tick(16);
        Nets.loseAll(net, 0, 1);
        net.tick(4);
        net.deliver(0, 1);
        net.call(1, 0);
        net.deliver(1, 1);
        Nets.loseAll(net, 0, 0);
        net.tick(16);
        Check.due("the greater epoch", net.epoch(0, 1), 2);
        Check.due("the less one", net.epoch(0, 0), 1);
        int before = net.frames(0, 0);
        Check.due("SET of the less epoch", net.frame(0, 1, 0, 0), 0);
        net.deliver(0, 1);
        Check.due("is not answered", net.frames(0, 0), before);
        Check.due("nor followed", net.epoch(0, 1), 2);
        Nets.deliverAll(net, 0, 0);
        Check.due("a SETTING end follows the greater epoch", net.epoch(0, 0), 2);
        Check.due("and is UP", net.up(0, 0), true);
        Nets.settle(net);
        Check.due("both are UP", net.up(0, 1), true);
    }

    private static void longTick() {
        CircuitNet net = new CircuitNet();
        net.call(0, 1);
        net.lose(0, 1);
        Check.due("tick(40)", net.tick(40), true);
        // sent again at 4, 8 and 12, failed at 16, SET at 16, 20, .. 40, of which five find room
        Check.due("frames", net.frames(0, 1), 8);
        Check.due("INFO", net.frame(0, 1, 2, 0), 2);
        Check.due("SET", net.frame(0, 1, 3, 0), 0);
        Check.due("epoch", net.epoch(0, 0), 1);
        Check.due("tick(0)", net.tick(0), false);
        Check.due("tick(41)", net.tick(41), false);
        Check.due("tick(-1)", net.tick(-1), false);
        Check.due("tick(1)", net.tick(1), true);
    }

    private static void numbersWrap() {
        CircuitNet net = Nets.open(0, 1);
        int number = 1;
        for (int i = 0; i < 20; i++) {
            net.send(0, 3, i);
            Check.due("number of the INFO", net.frame(0, 1, 0, 2), number);
            number = (number + 1) % 8;
            net.deliver(0, 1);
            Check.due("due of the READY", net.frame(0, 0, 0, 3), number);
            Nets.settle(net);
            Check.due("read", net.read(1, 1), i);
            Nets.settle(net);
        }
        Check.due("row", net.row(0, 0), 0);
    }

    /** What a failure puts into a later end's row is seen by that end's very tick. */
    private static void ticksGoRound() {
        CircuitNet net = Nets.open(0, 2);
        net.send(2, 1, 1);
        net.deliver(2, 1);
        net.deliver(4, 0);
        Check.due("link 0 end 1 has a packet", net.row(0, 1), 1);
        Nets.deliverAll(net, 4, 1);
        Nets.deliverAll(net, 2, 0);
        net.tick(16);
        Check.due("it failed", net.epoch(0, 1), 1);
        Check.due("link 4 end 0 puts CLEAR", net.frames(4, 1), 1);
        net.tick(2);
        Check.due("whose clock is at 3", net.frames(4, 1), 1);
        net.tick(1);
        Check.due("and is at 4 after three ticks more", net.frames(4, 1), 2);
        CircuitNet back = Nets.open(2, 0);
        back.send(0, 1, 1);
        back.deliver(0, 1);
        back.tick(16);
        Check.due("link 4 end 0 failed", back.epoch(4, 0), 1);
        Check.due("link 0 end 1 puts CLEAR, and ticked before", back.frames(0, 0), 2);
        back.tick(3);
        Check.due("so its clock is at 3", back.frames(0, 0), 2);
        back.tick(1);
        Check.due("and now at 4", back.frames(0, 0), 3);
    }

    private static void settingSendsSet() {
        CircuitNet net = new CircuitNet();
        net.call(2, 3);
        net.tick(16);
        Nets.loseAll(net, 2, 1);
        for (int i = 0; i < 6; i++) {
            net.tick(3);
            Check.due("not yet", net.frames(2, 1), 0);
            net.tick(1);
            Nets.frameIs(net, 2, 1, 0, 0, 1);
            net.lose(2, 1);
        }
        net.tick(3);
        net.tick(1);
        net.deliver(2, 1);
        Nets.frameIs(net, 2, 0, 0, 1, 1);
        net.tick(2);
        net.deliver(2, 0);
        Check.due("UP", net.up(2, 0), true);
        net.call(2, 3);
        net.tick(3);
        Check.due("the clock began anew", net.frames(2, 1), 1);
        net.tick(1);
        Check.due("sent again", net.frames(2, 1), 2);
    }

    private static void resendCarriesDue() {
        CircuitNet net = Nets.open(0, 1);
        net.send(0, 3, 1);
        net.send(1, 1, 2);
        Check.due("due", net.frame(0, 1, 0, 3), 1);
        net.deliver(1, 1);
        net.deliver(0, 0);
        net.tick(4);
        int last = net.frames(0, 1) - 1;
        Check.due("INFO again", net.frame(0, 1, last, 0), 2);
        Check.due("its number", net.frame(0, 1, last, 2), 1);
        Check.due("with DUE as it is now", net.frame(0, 1, last, 3), 2);
        Check.due("READY", net.frame(0, 1, last - 1, 0), 3);
    }

    /** A row grows far beyond the window when the other end of the link hears nothing. */
    private static void longRow() {
        CircuitNet net = new CircuitNet();
        int[][] circuits = {{0, 3}, {0, 2}, {1, 3}};
        net.call(0, 2);
        net.call(0, 3);
        net.call(1, 2);
        Nets.settle(net);
        Check.due("answer", net.answer(2, 1) && net.answer(2, 2) && net.answer(3, 1), true);
        Nets.settle(net);
        for (int[] k : circuits) {
            for (int v = 1; v <= 3; v++) {
                net.send(k[0], k[1], v);
                overTheLink(net, k[0]);
            }
            Check.due("reset", net.reset(k[0], k[1]), true);
            overTheLink(net, k[0]);
            Check.due("clear", net.clear(k[0], k[1]), true);
            overTheLink(net, k[0]);
        }
        Check.due("row", net.row(4, 0), 15);
        Check.due("four were sent", net.frames(4, 1), 4);
        for (int i = 0; i < 4; i++) {
            Check.due("number", net.frame(4, 1, i, 2), 3 + i);
        }
        net.deliver(4, 1);
        net.deliver(4, 0);
        Check.due("the row moves on", net.row(4, 0), 14);
        Nets.frameIs(net, 4, 1, 3, 2, 0, 7, 3, 2, 3, 0, 0);
        Nets.settle(net);
        Check.due("all came", net.row(4, 0), 0);
        Check.due("all is free", net.busy(4, 0) + net.busy(2, 0) + net.busy(3, 0), 0);
    }

    private static void overTheLink(CircuitNet net, int p) {
        for (int i = 0; i < 3; i++) {
            Nets.deliverAll(net, p, 1);
            Nets.deliverAll(net, p, 0);
        }
    }
}
