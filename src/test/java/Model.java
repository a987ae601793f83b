import java.util.ArrayList;
import java.util.HashMap;
import java.util.List;
import java.util.Map;

/**
 * The document's terms once more, in the plainest form and without care for room or speed. ModelTest
 * compares CircuitNet with it. It counts the branches that it went through, so that the test can tell
 * that its runs reach them all.
 */
final class Model {
    static final String[] FRAME = {"SET", "SETTLED", "INFO", "READY"};
    static final String[] PACKET =
            {"CALL", "ACCEPT", "CLEAR", "CLEARED", "DATA", "TAKEN", "RESET", "AGREED"};
    static final String[] STATE = {"IDLE", "CALLING", "RINGING", "OPEN", "RESETTING", "CLEARING"};

    static final class Packet {
        final String kind;
        final int channel;
        final int a;
        final int b;

        Packet(String kind, int channel, int a, int b) {
            this.kind = kind;
            this.channel = channel;
            this.a = a;
            this.b = b;
        }
    }

    static final class Frame {
        String kind;
        int epoch;
        int number = -1;
        int due = -1;
        Packet packet;
    }

    static final class Channel {
        String state;
        int end;
        int number;
        // at a terminal
        int peer;
        int own;
        int sure;
        int got;
        List<Integer> values = new ArrayList<>();
        // at a switch
        Channel partner;
        boolean calledAndNothingCame;
    }

    static final class End {
        int link;
        int side;
        int node;
        int epoch = 0;
        boolean up = true;
        List<Packet> row = new ArrayList<>();
        int sent = 0;
        int next = 0;
        int first = 0;
        int due = 0;
        int count = 0;
        int clock = 0;
        List<Frame> underWay = new ArrayList<>();
        Channel[] channel = new Channel[4];
    }

    static final int[][] NODES = {{0, 4}, {1, 4}, {2, 5}, {3, 5}, {4, 5}};
    final End[][] end = new End[5][2];
    static final Map<String, Integer> reached = new HashMap<>();

    Model() {
        for (int k = 0; k < 5; k++) {
            for (int s = 0; s < 2; s++) {
                End e = new End();
                e.link = k;
                e.side = s;
                e.node = NODES[k][s];
                for (int c = 1; c <= 3; c++) {
                    e.channel[c] = new Channel();
                    e.channel[c].state = e.node < 4 ? "IDLE" : "FREE";
                    e.channel[c].number = c;
                    e.channel[c].end = 2 * k + s;
                }
                end[k][s] = e;
            }
        }
    }

    private static void reach(String branch) {
        reached.merge(branch, 1, Integer::sum);
    }

    private End endOf(Channel c) {
        return end[c.end / 2][c.end % 2];
    }

    private void transmit(End from, String kind, int number, Packet packet) {
        End to = end[from.link][1 - from.side];
        if (to.underWay.size() == 8) {
            reach("a ninth frame");
            return;
        }
        Frame f = new Frame();
        f.kind = kind;
        f.epoch = from.epoch;
        if (kind.equals("INFO")) {
            f.number = number;
            f.packet = packet;
        }
        if (kind.equals("INFO") || kind.equals("READY")) {
            f.due = from.due;
        }
        to.underWay.add(f);
    }

    private void put(Channel c, String kind, int a, int b) {
        End e = endOf(c);
        e.row.add(new Packet(kind, c.number, a, b));
        if (!e.up) {
            reach("put while SETTING");
        }
        sendOn(e);
    }

    private void sendOn(End e) {
        while (e.up && e.row.size() > e.sent && e.sent < 4) {
            transmit(e, "INFO", e.next, e.row.get(e.sent));
            e.sent++;
            e.next = (e.next + 1) % 8;
        }
        if (e.row.size() > e.sent) {
            reach("a packet waits");
        }
    }

    private void arrives(End e, Frame f) {
        if (f.kind.equals("SET")) {
            if (f.epoch > e.epoch) {
                reach("SET greater, UP was " + e.up);
                e.epoch = f.epoch;
                breaks(e);
                makeUp(e);
            } else {
                reach("SET not greater " + (f.epoch == e.epoch) + ", UP was " + e.up);
            }
            if (f.epoch == e.epoch) {
                transmit(e, "SETTLED", 0, null);
            }
            return;
        }
        if (f.kind.equals("SETTLED")) {
            reach("SETTLED of its epoch " + (f.epoch == e.epoch) + ", UP was " + e.up);
            if (f.epoch == e.epoch && !e.up) {
                makeUp(e);
                sendOn(e);
            }
            return;
        }
        if (!e.up || f.epoch != e.epoch) {
            reach(f.kind + " ignored, UP " + e.up + ", epoch matches " + (f.epoch == e.epoch));
            return;
        }
        int d = ((f.due - e.first) % 8 + 8) % 8;
        if (d <= e.sent) {
            reach(f.kind + " confirms " + d);
            for (int i = 0; i < d; i++) {
                e.row.remove(0);
                e.sent--;
            }
            e.first = (e.first + d) % 8;
            if (d > 0) {
                e.count = 0;
                e.clock = 0;
            }
            sendOn(e);
        } else {
            reach("d is above");
        }
        if (f.kind.equals("INFO")) {
            boolean grew = f.number == e.due;
            if (grew) {
                e.due = (e.due + 1) % 8;
            } else {
                reach("INFO not due");
            }
            transmit(e, "READY", 0, null);
            if (grew) {
                Channel c = e.channel[f.packet.channel];
                if (e.node < 4) {
                    atTerminal(c, f.packet);
                } else {
                    atSwitch(c, f.packet);
                }
            }
        }
    }

    private void makeUp(End e) {
        e.up = true;
        e.count = 0;
        e.clock = 0;
    }

    private void breaks(End e) {
        e.row.clear();
        e.sent = 0;
        e.next = 0;
        e.first = 0;
        e.due = 0;
        e.count = 0;
        e.clock = 0;
        for (int c = 1; c <= 3; c++) {
            lost(e, e.channel[c]);
        }
    }

    private void lost(End e, Channel c) {
        reach("LOST at " + (e.node < 4 ? "terminal " : "switch ") + c.state);
        if (e.node < 4) {
            c.state = "IDLE";
        } else if (c.state.equals("JOINED")) {
            c.state = "FREE";
            put(c.partner, "CLEAR", 0, 0);
            c.partner.state = "CLEARING";
        } else if (c.state.equals("CLEARING")) {
            c.state = "FREE";
        }
    }

    private void tickFor(End e) {
        if (!e.up || e.sent > 0) {
            e.clock++;
        }
        if (e.clock != 4) {
            return;
        }
        e.clock = 0;
        if (!e.up) {
            reach("SET again");
            transmit(e, "SET", 0, null);
        } else if (e.count == 3) {
            reach("FAILS");
            e.epoch++;
            breaks(e);
            e.up = false;
            transmit(e, "SET", 0, null);
        } else {
            reach("sends again " + e.sent);
            e.count++;
            for (int i = 0; i < e.sent; i++) {
                transmit(e, "INFO", (e.first + i) % 8, e.row.get(i));
            }
        }
    }

    private void renew(Channel c) {
        c.own = 0;
        c.sure = 0;
        c.got = 0;
        c.values.clear();
    }

    private void atTerminal(Channel c, Packet k) {
        reach("terminal " + c.state + " gets " + k.kind);
        if (k.kind.equals("CALL") && c.state.equals("IDLE")) {
            c.state = "RINGING";
            c.peer = k.b;
            renew(c);
        } else if (k.kind.equals("ACCEPT") && c.state.equals("CALLING")) {
            c.state = "OPEN";
        } else if (k.kind.equals("CLEAR") && c.state.equals("CLEARING")) {
            c.state = "IDLE";
        } else if (k.kind.equals("CLEAR")) {
            c.state = "IDLE";
            put(c, "CLEARED", 0, 0);
        } else if (k.kind.equals("CLEARED") && c.state.equals("CLEARING")) {
            c.state = "IDLE";
        } else if (k.kind.equals("DATA") && c.state.equals("OPEN")) {
            c.values.add(k.b);
        } else if (k.kind.equals("TAKEN") && c.state.equals("OPEN")) {
            c.sure = k.a;
        } else if (k.kind.equals("RESET") && c.state.equals("OPEN")) {
            renew(c);
            put(c, "AGREED", 0, 0);
        } else if (k.kind.equals("RESET") && c.state.equals("RESETTING")) {
            c.state = "OPEN";
        } else if (k.kind.equals("AGREED") && c.state.equals("RESETTING")) {
            c.state = "OPEN";
        }
    }

    private End route(int node, int terminal) {
        int home = terminal < 2 ? 4 : 5;
        return home == node ? end[terminal][1] : end[4][node - 4];
    }

    private void atSwitch(Channel c, Packet k) {
        End x = endOf(c);
        boolean givesWay = c.state.equals("JOINED") && x.side == 1 && c.calledAndNothingCame;
        c.calledAndNothingCame = false;
        reach("switch " + (x.link == 4 ? "trunk " + x.side + " " : "") + c.state + " gets " + k.kind
                + (k.kind.equals("CALL") ? ", gives way " + givesWay : ""));
        if (k.kind.equals("CALL")) {
            if (givesWay) {
                put(c.partner, "CLEAR", 0, 0);
                c.partner.state = "CLEARING";
                c.state = "FREE";
            }
            if (c.state.equals("FREE")) {
                callOnFree(x, c, k);
            }
        } else if (k.kind.equals("CLEAR")) {
            if (c.state.equals("FREE")) {
                put(c, "CLEARED", 0, 0);
            } else if (c.state.equals("JOINED")) {
                c.state = "FREE";
                put(c, "CLEARED", 0, 0);
                put(c.partner, "CLEAR", 0, 0);
                c.partner.state = "CLEARING";
            } else {
                c.state = "FREE";
            }
        } else if (k.kind.equals("CLEARED")) {
            if (c.state.equals("CLEARING")) {
                c.state = "FREE";
            }
        } else if (c.state.equals("JOINED")) {
            put(c.partner, k.kind, k.a, k.b);
        }
    }

    private void callOnFree(End x, Channel c, Packet k) {
        End y = route(x.node, k.a);
        Channel least = null;
        Channel greatest = null;
        for (int i = 1; i <= 3; i++) {
            if (y.channel[i].state.equals("FREE")) {
                least = least == null ? y.channel[i] : least;
                greatest = y.channel[i];
            }
        }
        if (y == x || !y.up || least == null) {
            reach("call refused, UP " + y.up + ", has a FREE channel " + (least != null));
            put(c, "CLEAR", 0, 0);
            c.state = "CLEARING";
            return;
        }
        Channel other = y.side == 0 ? greatest : least;
        c.state = "JOINED";
        c.partner = other;
        c.calledAndNothingCame = false;
        other.state = "JOINED";
        other.partner = c;
        other.calledAndNothingCame = true;
        put(other, "CALL", k.a, k.b);
    }

    private Channel channel(int p, int c) {
        return p < 0 || p > 3 || c < 1 || c > 3 ? null : end[p][0].channel[c];
    }

    private End end(int link, int side) {
        return link < 0 || link > 4 || side < 0 || side > 1 ? null : end[link][side];
    }

    int call(int p, int to) {
        if (p < 0 || p > 3 || to < 0 || to > 3 || p == to || !end[p][0].up) {
            return -1;
        }
        for (int c = 3; c >= 1; c--) {
            Channel k = end[p][0].channel[c];
            if (k.state.equals("IDLE")) {
                k.state = "CALLING";
                k.peer = to;
                renew(k);
                put(k, "CALL", to, p);
                return c;
            }
        }
        return -1;
    }

    int answer(int p, int c) {
        Channel k = channel(p, c);
        if (k == null || !k.state.equals("RINGING")) {
            return 0;
        }
        put(k, "ACCEPT", 0, 0);
        k.state = "OPEN";
        return 1;
    }

    int clear(int p, int c) {
        Channel k = channel(p, c);
        if (k == null || k.state.equals("IDLE") || k.state.equals("CLEARING")) {
            return 0;
        }
        reach("clear while " + k.state);
        put(k, "CLEAR", 0, 0);
        k.state = "CLEARING";
        return 1;
    }

    int reset(int p, int c) {
        Channel k = channel(p, c);
        if (k == null || !k.state.equals("OPEN")) {
            return 0;
        }
        renew(k);
        put(k, "RESET", 0, 0);
        k.state = "RESETTING";
        return 1;
    }

    int send(int p, int c, int v) {
        Channel k = channel(p, c);
        if (k == null || v < 0 || v > 255 || !k.state.equals("OPEN")) {
            return -1;
        }
        if (k.own == (k.sure + 3) % 8) {
            reach("FULL");
            return -2;
        }
        int number = k.own;
        put(k, "DATA", number, v);
        k.own = (k.own + 1) % 8;
        return number;
    }

    int read(int p, int c) {
        Channel k = channel(p, c);
        if (k == null || !k.state.equals("OPEN") || k.values.isEmpty()) {
            return -1;
        }
        k.got = (k.got + 1) % 8;
        reach("read " + k.got);
        put(k, "TAKEN", k.got, 0);
        return k.values.remove(0);
    }

    int deliver(int link, int side) {
        End e = end(link, side);
        if (e == null || e.underWay.isEmpty()) {
            return 0;
        }
        arrives(e, e.underWay.remove(0));
        return 1;
    }

    int lose(int link, int side) {
        End e = end(link, side);
        if (e == null || e.underWay.isEmpty()) {
            return 0;
        }
        e.underWay.remove(0);
        return 1;
    }

    int tick(int n) {
        if (n < 1 || n > 40) {
            return 0;
        }
        for (int i = 0; i < n; i++) {
            for (int k = 0; k < 5; k++) {
                tickFor(end[k][0]);
                tickFor(end[k][1]);
            }
        }
        return 1;
    }

    int state(int p, int c) {
        Channel k = channel(p, c);
        return k == null ? -1 : List.of(STATE).indexOf(k.state);
    }

    int peer(int p, int c) {
        Channel k = channel(p, c);
        return k == null || k.state.equals("IDLE") || k.state.equals("CLEARING") ? -1 : k.peer;
    }

    int unread(int p, int c) {
        Channel k = channel(p, c);
        if (k == null) {
            return -1;
        }
        if (k.state.equals("OPEN")) {
            reach("unread " + k.values.size());
        }
        return k.state.equals("OPEN") ? k.values.size() : 0;
    }

    int frames(int link, int side) {
        End e = end(link, side);
        return e == null ? -1 : e.underWay.size();
    }

    int frame(int link, int side, int k, int w) {
        End e = end(link, side);
        if (e == null || k < 0 || k >= e.underWay.size() || w < 0 || w > 7) {
            return -1;
        }
        Frame f = e.underWay.get(k);
        if (w >= 4 && f.packet == null) {
            return -1;
        }
        switch (w) {
            case 0: return List.of(FRAME).indexOf(f.kind);
            case 1: return f.epoch;
            case 2: return f.number;
            case 3: return f.due;
            case 4: return List.of(PACKET).indexOf(f.packet.kind);
            case 5: return f.packet.channel;
            case 6: return f.packet.a;
            default: return f.packet.b;
        }
    }

    int row(int link, int side) {
        End e = end(link, side);
        return e == null ? -1 : e.row.size();
    }

    int epoch(int link, int side) {
        End e = end(link, side);
        return e == null ? -1 : e.epoch;
    }

    int up(int link, int side) {
        End e = end(link, side);
        return e != null && e.up ? 1 : 0;
    }

    int busy(int link, int side) {
        End e = end(link, side);
        if (e == null) {
            return -1;
        }
        int used = 0;
        for (int c = 1; c <= 3; c++) {
            String s = e.channel[c].state;
            used += s.equals("IDLE") || s.equals("FREE") ? 0 : 1;
        }
        return used;
    }
}
