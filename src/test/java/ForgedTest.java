/** The edges of the document's terms that no run of calls reaches: every packet in every state. */
public final class ForgedTest {
    private static final int CALL = 0;
    private static final int ACCEPT = 1;
    private static final int CLEAR = 2;
    private static final int CLEARED = 3;
    private static final int DATA = 4;
    private static final int TAKEN = 5;
    private static final int RESET = 6;
    private static final int AGREED = 7;

    private static final int IDLE = 0;
    private static final int CALLING = 1;
    private static final int RINGING = 2;
    private static final int OPEN = 3;
    private static final int RESETTING = 4;
    private static final int CLEARING = 5;

    public static void main(String[] args) {
        if (!Forge.knowsTheProgram()) {
            System.out.println("skipped: the program holds its state in another way than Forge knows");
            return;
        }
        links();
        Check.edge("What arrives (at a terminal, in each state)", ForgedTest::terminals);
        Check.edge("TAKEN: when it is OPEN, SURE becomes A.", ForgedTest::takenInEachState);
        Check.edge("DATA: when it is OPEN", ForgedTest::dataInEachState);
        Check.edge("when the end y of its route is not x", ForgedTest::routeIsItsOwnEnd);
        Check.edge("for which neither ACCEPT nor any other packet came since",
                ForgedTest::callAfterAnotherPacket);
        Check.edge("the switch itself put a CALL on c", ForgedTest::callTwiceByTheCaller);
        Check.edge("CLEAR: FREE: CLEARED is put on c.", ForgedTest::clearOnFree);
        Check.edge("CLEARED: CLEARING becomes FREE; else nothing.", ForgedTest::clearedElsewhere);
        Check.edge("All others: JOINED: the same packet is put on its partner; else nothing.",
                ForgedTest::othersOnFree);
        Check.finish();
    }

    private static void links() {
        Check.edge("if d is not above the number of unconfirmed packets", ForgedTest::confirmsTooMany);
        Check.edge("INFO and READY arrive: nothing, if .. the epoch is not its own",
                ForgedTest::anotherEpoch);
        Check.edge("SET of epoch e .. then, when e is its epoch (a lesser one, while it is UP)",
                ForgedTest::lesserSetWhileUp);
        Check.edge("SET of epoch e arrives: when e is greater (by more than 1)", ForgedTest::farGreaterSet);
        Check.edge("SETTLED of its epoch (another one, while it is UP)", ForgedTest::otherSettledWhileUp);
        Check.edge("SETTLED .. it is UP, and sends on.", ForgedTest::settledSendsOn);
    }

    private static void confirmsTooMany() {
        for (int sent = 0; sent <= 3; sent++) {
            for (int d = 0; d < 8; d++) {
                CircuitNet net = Nets.open(0, 1);
                for (int v = 0; v < sent; v++) {
                    net.send(0, 3, v);
                }
                net.tick(3);
                Nets.loseAll(net, 0, 1);
                Forge.frame(net, 0, 0, 3, 0, -1, (1 + d) % 8, -1);
                net.deliver(0, 0);
                int left = d <= sent ? sent - d : sent;
                Check.due("row of " + sent + " after d = " + d, net.row(0, 0), left);
                net.tick(1);
                boolean again = d == 0 || d > sent;
                Check.due("the clock of " + sent + " after d = " + d, net.frames(0, 1), again ? left : 0);
            }
        }
    }

    private static void anotherEpoch() {
        for (int epoch = 0; epoch <= 2; epoch++) {
            CircuitNet net = new CircuitNet();
            net.call(0, 1);
            net.tick(16);
            Nets.loseAll(net, 0, 1);
            net.tick(4);
            Nets.settle(net);
            net.call(0, 1);
            Check.due("UP with epoch 1", net.up(0, 0) && net.epoch(0, 0) == 1, true);
            Nets.loseAll(net, 0, 1);
            Forge.frame(net, 0, 0, 3, epoch, -1, 1, -1);
            net.deliver(0, 0);
            Check.due("row after READY of epoch " + epoch, net.row(0, 0), epoch == 1 ? 0 : 1);
            Forge.frame(net, 0, 0, 2, epoch, 0, 1, Forge.packet(CALL, 1, 0, 2));
            net.deliver(0, 0);
            Check.due("READY after INFO of epoch " + epoch, net.frames(0, 1), epoch == 1 ? 1 : 0);
            Check.due("its packet arrives", net.state(0, 1), epoch == 1 ? RINGING : IDLE);
        }
    }

    private static void lesserSetWhileUp() {
        CircuitNet net = Nets.open(0, 1);
        net.send(0, 3, 1);
        net.tick(16);
        Nets.deliverLast(net, 0, 1);
        Check.due("epoch", net.epoch(0, 1), 1);
        Nets.loseAll(net, 0, 0);
        Forge.frame(net, 0, 1, 0, 0, -1, -1, -1);
        net.deliver(0, 1);
        Check.due("no SETTLED", net.frames(0, 0), 0);
        Check.due("epoch", net.epoch(0, 1), 1);
        Check.due("UP", net.up(0, 1), true);
    }

    private static void farGreaterSet() {
        CircuitNet net = Nets.open(0, 1);
        Forge.frame(net, 0, 1, 0, 7, -1, -1, -1);
        net.deliver(0, 1);
        Check.due("epoch", net.epoch(0, 1), 7);
        Check.due("UP", net.up(0, 1), true);
        Check.due("broken", net.busy(0, 1), 0);
        Nets.frameIs(net, 0, 0, 0, 1, 7);
    }

    private static void otherSettledWhileUp() {
        for (int epoch = 0; epoch <= 2; epoch++) {
            CircuitNet net = new CircuitNet();
            net.call(0, 1);
            net.tick(3);
            Forge.frame(net, 0, 0, 1, epoch, -1, -1, -1);
            net.deliver(0, 0);
            Check.due("epoch", net.epoch(0, 0), 0);
            Check.due("UP", net.up(0, 0), true);
            net.tick(1);
            Check.due("the clock went on", net.frames(0, 1), 2);
        }
    }

    private static void settledSendsOn() {
        CircuitNet net = new CircuitNet();
        net.call(0, 1);
        net.tick(16);
        Check.due("UP", net.up(0, 0), false);
        Nets.deliverLast(net, 0, 1);
        for (int a = 1; a <= 5; a++) {
            Forge.waits(net, 0, 0, Forge.packet(DATA, 3, a, 0));
        }
        Check.due("all wait", net.frames(0, 1), 0);
        Nets.deliverLast(net, 0, 0);
        Check.due("UP", net.up(0, 0), true);
        Nets.wordsAre(net, 0, 1, 0, "2 2 2 2");
        Nets.wordsAre(net, 0, 1, 1, "1 1 1 1");
        Nets.wordsAre(net, 0, 1, 2, "0 1 2 3");
        Nets.wordsAre(net, 0, 1, 6, "1 2 3 4");
        Check.due("row", net.row(0, 0), 5);
    }

    /** Terminal 0 with its channel 3 in that state, and no frame under way to its end. */
    private static CircuitNet inState(int state) {
        CircuitNet net = state >= OPEN ? Nets.open(0, 1) : new CircuitNet();
        if (state == CALLING) {
            net.call(0, 1);
        } else if (state == RINGING) {
            Forge.arrive(net, 0, 0, CALL, 3, 0, 1);
        } else if (state == RESETTING) {
            net.reset(0, 3);
        } else if (state == CLEARING) {
            net.clear(0, 3);
        }
        Check.due("state", net.state(0, 3), state);
        return net;
    }

    private static void terminals() {
        for (int state = IDLE; state <= CLEARING; state++) {
            for (int kind = CALL; kind <= AGREED; kind++) {
                CircuitNet net = inState(state);
                int row = net.row(0, 0);
                Forge.arrive(net, 0, 0, kind, 3, 0, 2);
                String what = "packet " + kind + " in state " + state;
                Check.due("state after " + what, net.state(0, 3), stateAfter(state, kind));
                int put = putAfter(state, kind);
                Check.due("row after " + what, net.row(0, 0), put < 0 ? row : row + 1);
                int last = net.frames(0, 1) - 1;
                Check.due("what is put after " + what, net.frame(0, 1, last, 4), put);
                Check.due("unread after " + what, net.unread(0, 3), kind == DATA && state == OPEN ? 1 : 0);
                Check.due("the others after " + what, net.state(0, 1) + net.state(0, 2), 0);
                int peer = state == IDLE ? 2 : 1;
                boolean none = net.state(0, 3) == IDLE || net.state(0, 3) == CLEARING;
                Check.due("peer after " + what, net.peer(0, 3), none ? -1 : peer);
            }
        }
    }

    private static int stateAfter(int state, int kind) {
        if (kind == CLEAR || kind == CLEARED && state == CLEARING) {
            return IDLE;
        }
        if (kind == CALL && state == IDLE) {
            return RINGING;
        }
        boolean opens = kind == ACCEPT && state == CALLING
                || (kind == RESET || kind == AGREED) && state == RESETTING;
        return opens ? OPEN : state;
    }

    private static int putAfter(int state, int kind) {
        if (kind == CLEAR && state != CLEARING) {
            return CLEARED;
        }
        return kind == RESET && state == OPEN ? AGREED : -1;
    }

    private static void dataInEachState() {
        for (int state = IDLE; state <= CLEARING; state++) {
            CircuitNet net = inState(state);
            Forge.arrive(net, 0, 0, DATA, 3, 0, 9);
            Check.due("unread in state " + state, net.unread(0, 3), state == OPEN ? 1 : 0);
            if (state == CALLING) {
                Forge.arrive(net, 0, 0, ACCEPT, 3, 0, 0);
            } else if (state == RINGING) {
                net.answer(0, 3);
            } else if (state == RESETTING) {
                Forge.arrive(net, 0, 0, AGREED, 3, 0, 0);
            } else {
                continue;
            }
            Check.due("OPEN", net.state(0, 3), OPEN);
            Check.due("it is not kept from state " + state, net.unread(0, 3), 0);
        }
    }

    private static void takenInEachState() {
        for (int state = CALLING; state <= RESETTING; state++) {
            CircuitNet net = inState(state);
            Forge.arrive(net, 0, 0, TAKEN, 3, 1, 0);
            if (state == CALLING) {
                Forge.arrive(net, 0, 0, ACCEPT, 3, 0, 0);
            } else if (state == RINGING) {
                net.answer(0, 3);
            } else if (state == RESETTING) {
                Forge.arrive(net, 0, 0, AGREED, 3, 0, 0);
            }
            for (int v = 0; v < 3; v++) {
                Check.due("number", net.send(0, 3, v), v);
            }
            Check.due("a fourth after TAKEN in state " + state, net.send(0, 3, 3), state == OPEN ? 3 : -2);
        }
    }

    private static void routeIsItsOwnEnd() {
        for (int p = 0; p < 4; p++) {
            CircuitNet net = new CircuitNet();
            Forge.arrive(net, p, 1, CALL, 2, p, p);
            refused(net, p, 1, 2);
        }
        for (int end = 0; end < 2; end++) {
            CircuitNet net = new CircuitNet();
            Forge.arrive(net, 4, end, CALL, 2, end == 0 ? 3 : 0, 0);
            refused(net, 4, end, 2);
        }
    }

    private static void refused(CircuitNet net, int link, int end, int c) {
        Check.due("CLEARING", net.busy(link, end), 1);
        Nets.wordsAre(net, link, 1 - end, 4, "-1 2");
        Nets.wordsAre(net, link, 1 - end, 5, "-1 " + c);
    }

    /** Channel 1 of end 1 of link 1: the switch puts a CALL there, and then packets come on it. */
    private static void callAfterAnotherPacket() {
        for (int kind = CALL; kind <= AGREED; kind++) {
            CircuitNet net = new CircuitNet();
            net.call(0, 1);
            net.deliver(0, 1);
            net.deliver(0, 0);
            if (kind != CALL && kind != CLEAR) {
                Forge.arrive(net, 1, 1, kind, 1, 0, 0);
                Nets.loseAll(net, 0, 0);
            }
            boolean answered = kind != CALL && kind != CLEAR;
            int row = net.row(0, 1);
            Forge.arrive(net, 1, 1, CALL, 1, 2, 1);
            Check.due("CLEAR to the caller after " + kind, net.row(0, 1), answered ? row : row + 1);
            Check.due("CALL to 2 after " + kind, net.frames(4, 1), answered ? 0 : 1);
        }
    }

    private static void callTwiceByTheCaller() {
        CircuitNet net = new CircuitNet();
        net.call(0, 1);
        net.deliver(0, 1);
        String others = net.row(1, 1) + " " + net.frames(1, 0) + " " + net.busy(4, 0);
        Forge.arrive(net, 0, 1, CALL, 3, 2, 0);
        Check.due("what a second CALL changes",
                net.row(1, 1) + " " + net.frames(1, 0) + " " + net.busy(4, 0), others);
        Check.due("it is still JOINED", net.busy(0, 1), 1);
        Check.due("nothing is put", net.row(0, 1), 0);
    }

    private static void clearOnFree() {
        for (int link = 0; link < 5; link++) {
            CircuitNet net = new CircuitNet();
            Forge.arrive(net, link, 1, CLEAR, 2, 0, 0);
            Nets.frameIs(net, link, 0, 1, 2, 0, 0, 1, CLEARED, 2, 0, 0);
            Check.due("FREE", net.busy(link, 1), 0);
            Check.due("frames", net.frames(link, 0), 2);
        }
    }

    private static void clearedElsewhere() {
        CircuitNet free = new CircuitNet();
        Forge.arrive(free, 0, 1, CLEARED, 2, 0, 0);
        Nets.wordsAre(free, 0, 0, 0, "3");
        Check.due("FREE", free.busy(0, 1), 0);
        CircuitNet joined = Nets.open(0, 1);
        Forge.arrive(joined, 0, 1, CLEARED, 3, 0, 0);
        Nets.wordsAre(joined, 0, 0, 0, "3");
        Check.due("JOINED", joined.busy(0, 1), 1);
        Check.due("nothing is put on its partner", joined.row(1, 1), 0);
    }

    private static void othersOnFree() {
        int[] others = {ACCEPT, DATA, TAKEN, RESET, AGREED};
        for (int kind : others) {
            CircuitNet fresh = new CircuitNet();
            Forge.arrive(fresh, 0, 1, kind, 3, 1, 1);
            CircuitNet used = Nets.open(0, 1);
            used.clear(0, 3);
            Nets.settle(used);
            Forge.arrive(used, 0, 1, kind, 3, 1, 1);
            CircuitNet[] both = {fresh, used};
            for (CircuitNet net : both) {
                Nets.wordsAre(net, 0, 0, 0, "3");
                Check.due("nothing is put elsewhere", net.row(1, 1) + net.row(4, 0), 0);
                Check.due("FREE", net.busy(0, 1), 0);
            }
            CircuitNet joined = Nets.open(0, 1);
            Forge.arrive(joined, 0, 1, kind, 3, 5, 77);
            Nets.frameIs(joined, 1, 0, 0, 2, 0, 1, 1, kind, 1, 5, 77);
        }
    }
}
