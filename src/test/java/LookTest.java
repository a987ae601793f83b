/** Promises 11 to 19: the calls that tell what is there. */
public final class LookTest {
    public static void main(String[] args) {
        statesAndPeers();
        wordsOfEachKind();
        framesInOrder();
        rowsEpochsAndEnds();
        lookingChangesNothing();
        objectsAreApart();
        Check.finish();
    }

    private static void statesAndPeers() {
        CircuitNet net = new CircuitNet();
        stateIs(net, 0, 3, 0, -1);
        net.call(0, 3);
        stateIs(net, 0, 3, 1, 3);
        Nets.settle(net);
        stateIs(net, 3, 1, 2, 0);
        net.answer(3, 1);
        stateIs(net, 3, 1, 3, 0);
        Nets.settle(net);
        stateIs(net, 0, 3, 3, 3);
        net.reset(3, 1);
        stateIs(net, 3, 1, 4, 0);
        net.clear(3, 1);
        stateIs(net, 3, 1, 5, -1);
        Nets.settle(net);
        stateIs(net, 3, 1, 0, -1);
        stateIs(net, 0, 3, 0, -1);
    }

    private static void stateIs(CircuitNet net, int p, int c, int state, int peer) {
        Check.due("state(" + p + ", " + c + ")", net.state(p, c), state);
        Check.due("peer(" + p + ", " + c + ")", net.peer(p, c), peer);
    }

    private static void wordsOfEachKind() {
        CircuitNet net = Nets.open(1, 0);
        net.send(1, 3, 255);
        Nets.frameIs(net, 1, 1, 0, 2, 0, 1, 1, 4, 3, 0, 255);
        net.deliver(1, 1);
        Nets.frameIs(net, 1, 0, 0, 3, 0, -1, 2);
        net.lose(1, 0);
        net.deliver(0, 0);
        net.deliver(0, 1);
        net.tick(16);
        Nets.loseAll(net, 1, 1);
        net.tick(4);
        Nets.frameIs(net, 1, 1, 0, 0, 1);
        net.deliver(1, 1);
        Nets.frameIs(net, 1, 0, 0, 1, 1);
        Check.due("w = -1", net.frame(1, 0, 0, -1), -1);
        Check.due("w = 8", net.frame(1, 0, 0, 8), -1);
        Check.due("k = -1", net.frame(1, 0, -1, 0), -1);
        Check.due("k = 1", net.frame(1, 0, 1, 0), -1);
        net.deliver(1, 0);
        Nets.frameIs(net, 1, 0, 0);
        net.call(1, 2);
        Check.due("w = 8 of an INFO", net.frame(1, 1, 0, 8), -1);
        Check.due("w = 7 of an INFO", net.frame(1, 1, 0, 7), 1);
    }

    private static void framesInOrder() {
        CircuitNet net = new CircuitNet();
        for (int to = 0; to < 3; to++) {
            net.call(3, to);
            Check.due("frames", net.frames(3, 1), to + 1);
        }
        for (int k = 0; k < 3; k++) {
            Check.due("number", net.frame(3, 1, k, 2), k);
            Check.due("A", net.frame(3, 1, k, 6), k);
            Check.due("B", net.frame(3, 1, k, 7), 3);
        }
        net.lose(3, 1);
        Check.due("the first is the second now", net.frame(3, 1, 0, 2), 1);
        Check.due("no third", net.frame(3, 1, 2, 0), -1);
    }

    private static void rowsEpochsAndEnds() {
        CircuitNet net = new CircuitNet();
        net.call(3, 2);
        Check.due("row", net.row(3, 0), 1);
        Check.due("row of the other end", net.row(3, 1), 0);
        net.deliver(3, 1);
        Check.due("row of the next", net.row(2, 1), 1);
        Check.due("not confirmed yet", net.row(3, 0), 1);
        net.deliver(3, 0);
        Check.due("confirmed", net.row(3, 0), 0);
        net.tick(16);
        Check.due("epoch of the end that failed", net.epoch(2, 1), 1);
        Check.due("of the other", net.epoch(2, 0), 0);
        Check.due("up", net.up(2, 1), false);
        Check.due("up", net.up(2, 0), true);
    }

    private static void lookingChangesNothing() {
        CircuitNet net = Nets.open(0, 1);
        net.send(0, 3, 1);
        for (int i = 0; i < 20; i++) {
            Check.due("frames", net.frames(0, 1), 1);
            Check.due("row", net.row(0, 0), 1);
            Check.due("frame", net.frame(0, 1, 0, 7), 1);
            Check.due("unread", net.unread(1, 1), 0);
            Check.due("busy", net.busy(0, 0), 1);
        }
    }

    private static void objectsAreApart() {
        CircuitNet one = new CircuitNet();
        CircuitNet other = new CircuitNet();
        one.call(0, 1);
        Check.due("frames of the other", other.frames(0, 1), 0);
        Check.due("state of the other", other.state(0, 3), 0);
        Check.due("call of the other", other.call(0, 2), 3);
        Check.due("peer of the one", one.peer(0, 3), 1);
    }
}
