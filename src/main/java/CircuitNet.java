/**
 * A packet network of four terminals and two switches. Frames under way stand still until the caller
 * delivers or loses them, and time passes only by tick.
 */
public final class CircuitNet {
    public static final int NONE = -1;
    public static final int FULL = -2;

    private static final int TERMINALS = 4;
    private static final int LINKS = 5;
    private static final int CHANNELS = 3;
    private static final int TERMINALS_OF_A_SWITCH = 2;
    private static final int SWITCHES = 2;
    /** The link between the switches. */
    private static final int TRUNK = 4;

    /** All numbers that wrap count modulo 8. */
    private static final int WRAP = 7;
    private static final int LINK_WINDOW = 4;
    private static final int CIRCUIT_WINDOW = 3;
    private static final int CLOCK_END = 4;
    private static final int MOST_TRIES = 3;
    private static final int MOST_TICKS = 40;
    private static final int GREATEST_VALUE = 255;

    private static final int SET = 0;
    private static final int SETTLED = 1;
    private static final int INFO = 2;
    private static final int READY = 3;

    private static final int CALL = 0;
    private static final int ACCEPT = 1;
    private static final int CLEAR = 2;
    private static final int CLEARED = 3;
    private static final int DATA = 4;
    private static final int TAKEN = 5;
    private static final int RESET = 6;
    private static final int AGREED = 7;

    /** IDLE at a terminal, FREE at a switch. */
    private static final int UNUSED = 0;
    private static final int CALLING = 1;
    private static final int RINGING = 2;
    private static final int OPEN = 3;
    private static final int RESETTING = 4;
    private static final int CLEARING = 5;
    private static final int JOINED = 1;

    /** End e of link k stands at 2 k + e. */
    private final End[] ends;
    /** Channel c of terminal p stands at 3 p + c - 1. */
    private final Circuit[] circuits;

    public CircuitNet() {
        End[] made = makeEnds();
        for (int side = 0; side < SWITCHES; side++) {
            addSwitch(made, side);
        }
        circuits = addCircuits(made);
        ends = made;
    }

    public int call(int p, int to) {
        if (!isTerminal(p) || !isTerminal(to) || p == to || !ends[2 * p].isUp) {
            return NONE;
        }
        for (int c = CHANNELS; c >= 1; c--) {
            Circuit circuit = circuitAt(p, c);
            if (circuit != null && circuit.state == UNUSED) {
                circuit.begin(CALLING, to);
                circuit.put(CALL, to, p);
                return c;
            }
        }
        return NONE;
    }

    public boolean answer(int p, int c) {
        Circuit circuit = circuitAt(p, c);
        if (circuit == null || circuit.state != RINGING) {
            return false;
        }
        circuit.state = OPEN;
        circuit.put(ACCEPT, 0, 0);
        return true;
    }

    public boolean clear(int p, int c) {
        Circuit circuit = circuitAt(p, c);
        if (circuit == null || !circuit.hasPeer()) {
            return false;
        }
        circuit.startClearing();
        return true;
    }

    public boolean reset(int p, int c) {
        Circuit circuit = circuitAt(p, c);
        if (circuit == null || circuit.state != OPEN) {
            return false;
        }
        circuit.renew();
        circuit.put(RESET, 0, 0);
        circuit.state = RESETTING;
        return true;
    }

    public int send(int p, int c, int v) {
        Circuit circuit = circuitAt(p, c);
        if (circuit == null || v < 0 || v > GREATEST_VALUE || circuit.state != OPEN) {
            return NONE;
        }
        if (circuit.windowIsFull()) {
            return FULL;
        }
        return circuit.putValue(v);
    }

    public int read(int p, int c) {
        Circuit circuit = circuitAt(p, c);
        if (circuit == null || circuit.state != OPEN || circuit.values.size() == 0) {
            return NONE;
        }
        return circuit.takeValue();
    }

    public boolean deliver(int link, int end) {
        End at = endAt(link, end);
        if (at == null || at.in.size() == 0) {
            return false;
        }
        int kind = at.in.word(0, Wire.KIND);
        int epoch = at.in.word(0, Wire.EPOCH);
        int number = at.in.word(0, Wire.NUMBER);
        int due = at.in.word(0, Wire.DUE);
        int packet = at.in.word(0, Wire.PACKET);
        at.in.dropFirst();
        if (kind == SET) {
            at.meetSet(epoch);
        } else if (kind == SETTLED) {
            at.meetSettled(epoch);
        } else if (at.isUp && at.epoch == epoch) {
            at.confirm(due);
            if (kind == INFO && at.expects(number)) {
                Channel channel = at.channelOf(packet);
                if (channel != null) {
                    channel.arrive(Packet.part(packet, Packet.KIND), Packet.part(packet, Packet.A),
                            Packet.part(packet, Packet.B));
                }
            }
        }
        return true;
    }

    public boolean lose(int link, int end) {
        End at = endAt(link, end);
        if (at == null || at.in.size() == 0) {
            return false;
        }
        at.in.dropFirst();
        return true;
    }

    public boolean tick(int n) {
        if (n < 1 || n > MOST_TICKS) {
            return false;
        }
        for (int i = 0; i < n; i++) {
            for (int k = 0; k < ends.length; k++) {
                ends[k].passTime();
            }
        }
        return true;
    }

    public int state(int p, int c) {
        Circuit circuit = circuitAt(p, c);
        return circuit == null ? NONE : circuit.state;
    }

    public int peer(int p, int c) {
        Circuit circuit = circuitAt(p, c);
        return circuit == null || !circuit.hasPeer() ? NONE : circuit.peer;
    }

    public int unread(int p, int c) {
        Circuit circuit = circuitAt(p, c);
        if (circuit == null) {
            return NONE;
        }
        return circuit.state == OPEN ? circuit.values.size() : 0;
    }

    public int frames(int link, int end) {
        End at = endAt(link, end);
        return at == null ? NONE : at.in.size();
    }

    public int frame(int link, int end, int k, int w) {
        End at = endAt(link, end);
        if (at == null || w < 0) {
            return NONE;
        }
        if (w < Wire.PACKET) {
            return at.in.word(k, w);
        }
        int packet = at.in.word(k, Wire.PACKET);
        return packet == NONE ? NONE : Packet.part(packet, w - Wire.PACKET);
    }

    public int row(int link, int end) {
        End at = endAt(link, end);
        return at == null ? NONE : at.row.size();
    }

    public int epoch(int link, int end) {
        End at = endAt(link, end);
        return at == null ? NONE : at.epoch;
    }

    public boolean up(int link, int end) {
        End at = endAt(link, end);
        return at != null && at.isUp;
    }

    public int busy(int link, int end) {
        End at = endAt(link, end);
        if (at == null) {
            return NONE;
        }
        int used = 0;
        for (int i = 0; i < CHANNELS; i++) {
            if (at.channels[i].state != UNUSED) {
                used++;
            }
        }
        return used;
    }

    private static boolean isTerminal(int p) {
        return p >= 0 && p < TERMINALS;
    }

    private Circuit circuitAt(int p, int c) {
        if (!isTerminal(p) || c < 1 || c > CHANNELS) {
            return null;
        }
        return circuits[CHANNELS * p + c - 1];
    }

    private End endAt(int link, int end) {
        if (link < 0 || link >= LINKS || end < 0 || end > 1) {
            return null;
        }
        return ends[2 * link + end];
    }

    private static End[] makeEnds() {
        End[] made = new End[2 * LINKS];
        for (int link = 0; link < LINKS; link++) {
            Wire toFirst = new Wire();
            Wire toSecond = new Wire();
            made[2 * link] = new End(toFirst, toSecond, true);
            made[2 * link + 1] = new End(toSecond, toFirst, false);
        }
        return made;
    }

    /** Side 0 is switch 4, with terminals 0 and 1; side 1 is switch 5, with 2 and 3. */
    private static void addSwitch(End[] made, int side) {
        End[] routes = new End[TERMINALS];
        End trunk = made[2 * TRUNK + side];
        for (int p = 0; p < TERMINALS; p++) {
            boolean near = p / TERMINALS_OF_A_SWITCH == side;
            routes[p] = near ? made[2 * p + 1] : trunk;
            if (near) {
                addJoints(routes[p], routes);
            }
        }
        addJoints(trunk, routes);
    }

    private static void addJoints(End at, End[] routes) {
        for (int c = 1; c <= CHANNELS; c++) {
            at.channels[c - 1] = new Joint(at, c, routes);
        }
    }

    private static Circuit[] addCircuits(End[] made) {
        Circuit[] all = new Circuit[TERMINALS * CHANNELS];
        for (int p = 0; p < TERMINALS; p++) {
            for (int c = 1; c <= CHANNELS; c++) {
                Circuit circuit = new Circuit(made[2 * p], c);
                made[2 * p].channels[c - 1] = circuit;
                all[CHANNELS * p + c - 1] = circuit;
            }
        }
        return all;
    }

    /** A packet is held as one int, so that putting and sending it makes no object. */
    private static final class Packet {
        static final int KIND = 0;
        static final int CHANNEL = 1;
        static final int A = 2;
        static final int B = 3;

        static int of(int kind, int channel, int a, int b) {
            return (kind << 16) | (channel << 12) | (a << 8) | b;
        }

        static int part(int packet, int which) {
            switch (which) {
                case KIND:
                    return packet >> 16;
                case CHANNEL:
                    return (packet >> 12) & 15;
                case A:
                    return (packet >> 8) & 15;
                case B:
                    return packet & 255;
                default:
                    return NONE;
            }
        }
    }

    /** A line of numbers, first in, first out, that grows when it must. */
    private static final class Line {
        /** A call puts at most three packets into one row, so 512 calls never reach this. */
        private static final int LIMIT = 2048;
        /** Its length stays a power of two, so that a mask can wrap the places. */
        private int[] items = new int[4];
        private int start;
        private int count;

        int size() {
            return count;
        }

        int at(int k) {
            return k < 0 || k >= count ? NONE : items[(start + k) & (items.length - 1)];
        }

        void add(int item) {
            if (count >= LIMIT) {
                return;
            }
            if (count == items.length) {
                grow();
            }
            items[(start + count) & (items.length - 1)] = item;
            count++;
        }

        void drop(int n) {
            int gone = Math.max(0, Math.min(n, count));
            start = (start + gone) & (items.length - 1);
            count -= gone;
        }

        private void grow() {
            int[] more = new int[2 * items.length];
            for (int k = 0; k < count; k++) {
                more[k] = items[(start + k) & (items.length - 1)];
            }
            items = more;
            start = 0;
        }
    }

    /** The frames under way to one end. */
    private static final class Wire {
        static final int KIND = 0;
        static final int EPOCH = 1;
        static final int NUMBER = 2;
        static final int DUE = 3;
        static final int PACKET = 4;
        private static final int WORDS = 5;
        private static final int MOST = 8;
        private final int[] words = new int[MOST * WORDS];
        private int start;
        private int count;

        int size() {
            return count;
        }

        int word(int k, int w) {
            if (k < 0 || k >= count || w < 0 || w >= WORDS) {
                return NONE;
            }
            return words[(start + k) % MOST * WORDS + w];
        }

        void add(int kind, int epoch, int number, int due, int packet) {
            if (count >= MOST) {
                return;
            }
            int at = (start + count) % MOST * WORDS;
            words[at + KIND] = kind;
            words[at + EPOCH] = epoch;
            words[at + NUMBER] = number;
            words[at + DUE] = due;
            words[at + PACKET] = packet;
            count++;
        }

        void dropFirst() {
            if (count > 0) {
                start = (start + 1) % MOST;
                count--;
            }
        }
    }

    /** One end of a link, with the link layer. */
    private static final class End {
        final Wire in;
        final Wire out;
        /** Whether it is end 0 of its link. */
        final boolean isFirst;
        final Line row = new Line();
        /** Channel c stands at c - 1. */
        final Channel[] channels = new Channel[CHANNELS];
        int epoch;
        boolean isUp = true;
        /** How many packets of the row were sent; NEXT is always FIRST and this. */
        private int unconfirmed;
        private int first;
        private int due;
        private int tries;
        private int clock;

        End(Wire in, Wire out, boolean isFirst) {
            this.in = in;
            this.out = out;
            this.isFirst = isFirst;
        }

        Channel channelOf(int packet) {
            int c = Packet.part(packet, Packet.CHANNEL);
            return c < 1 || c > CHANNELS ? null : channels[c - 1];
        }

        void meetSet(int e) {
            if (e > epoch) {
                epoch = e;
                breakDown();
                isUp = true;
            }
            if (e == epoch) {
                out.add(SETTLED, epoch, NONE, NONE, NONE);
            }
        }

        void meetSettled(int e) {
            if (e == epoch && !isUp) {
                isUp = true;
                tries = 0;
                clock = 0;
                sendOn();
            }
        }

        void confirm(int theirDue) {
            int d = (theirDue - first) & WRAP;
            if (d > unconfirmed) {
                return;
            }
            if (d > 0) {
                row.drop(d);
                unconfirmed -= d;
                first = (first + d) & WRAP;
                tries = 0;
                clock = 0;
            }
            sendOn();
        }

        /** Whether the packet of that number is to go on to the node; READY is sent either way. */
        boolean expects(int number) {
            boolean expected = number == due;
            if (expected) {
                due = (due + 1) & WRAP;
            }
            out.add(READY, epoch, NONE, due, NONE);
            return expected;
        }

        void passTime() {
            if (isUp && unconfirmed == 0) {
                return;
            }
            clock++;
            if (clock < CLOCK_END) {
                return;
            }
            clock = 0;
            if (isUp && tries < MOST_TRIES) {
                tries++;
                sendAgain();
                return;
            }
            if (isUp) {
                epoch++;
                breakDown();
                isUp = false;
            }
            out.add(SET, epoch, NONE, NONE, NONE);
        }

        void sendOn() {
            for (int k = unconfirmed; isUp && k < LINK_WINDOW && k < row.size(); k++) {
                out.add(INFO, epoch, (first + k) & WRAP, due, row.at(k));
                unconfirmed = k + 1;
            }
        }

        private void sendAgain() {
            for (int k = 0; k < unconfirmed; k++) {
                out.add(INFO, epoch, (first + k) & WRAP, due, row.at(k));
            }
        }

        private void breakDown() {
            row.drop(row.size());
            unconfirmed = 0;
            first = 0;
            due = 0;
            tries = 0;
            clock = 0;
            for (int i = 0; i < CHANNELS; i++) {
                channels[i].beLost();
            }
        }
    }

    private abstract static class Channel {
        final End at;
        final int number;
        int state = UNUSED;

        Channel(End at, int number) {
            this.at = at;
            this.number = number;
        }

        abstract void arrive(int kind, int a, int b);

        abstract void beLost();

        void put(int kind, int a, int b) {
            at.row.add(Packet.of(kind, number, a, b));
            at.sendOn();
        }

        void startClearing() {
            state = CLEARING;
            put(CLEAR, 0, 0);
        }
    }

    /** A channel of a terminal. */
    private static final class Circuit extends Channel {
        int peer;
        final Line values = new Line();
        private int own;
        private int sure;
        private int got;

        Circuit(End at, int number) {
            super(at, number);
        }

        boolean hasPeer() {
            return state != UNUSED && state != CLEARING;
        }

        void begin(int newState, int newPeer) {
            state = newState;
            peer = newPeer;
            renew();
        }

        void renew() {
            own = 0;
            sure = 0;
            got = 0;
            values.drop(values.size());
        }

        boolean windowIsFull() {
            return own == ((sure + CIRCUIT_WINDOW) & WRAP);
        }

        int putValue(int v) {
            int n = own;
            own = (own + 1) & WRAP;
            put(DATA, n, v);
            return n;
        }

        int takeValue() {
            int value = values.at(0);
            values.drop(1);
            got = (got + 1) & WRAP;
            put(TAKEN, got, 0);
            return value;
        }

        void arrive(int kind, int a, int b) {
            switch (kind) {
                case CALL:
                    if (state == UNUSED) {
                        begin(RINGING, b);
                    }
                    break;
                case ACCEPT:
                    change(CALLING, OPEN);
                    break;
                case CLEAR:
                    meetClear();
                    break;
                case CLEARED:
                    change(CLEARING, UNUSED);
                    break;
                case DATA:
                    if (state == OPEN) {
                        values.add(b);
                    }
                    break;
                case TAKEN:
                    if (state == OPEN) {
                        sure = a;
                    }
                    break;
                case RESET:
                    meetReset();
                    break;
                case AGREED:
                    change(RESETTING, OPEN);
                    break;
                default:
                    break;
            }
        }

        void beLost() {
            state = UNUSED;
        }

        private void change(int from, int to) {
            if (state == from) {
                state = to;
            }
        }

        private void meetClear() {
            boolean crossed = state == CLEARING;
            state = UNUSED;
            if (!crossed) {
                put(CLEARED, 0, 0);
            }
        }

        private void meetReset() {
            if (state == OPEN) {
                renew();
                put(AGREED, 0, 0);
            } else {
                change(RESETTING, OPEN);
            }
        }
    }

    /** A channel of a switch. */
    private static final class Joint extends Channel {
        /** For each terminal, the end of this switch that leads to it. */
        private final End[] routes;
        private Joint partner;
        /** The switch put a CALL here, and nothing came here since. */
        private boolean unanswered;

        Joint(End at, int number, End[] routes) {
            super(at, number);
            this.routes = routes;
        }

        void arrive(int kind, int a, int b) {
            boolean mayGiveWay = unanswered && !at.isFirst;
            unanswered = false;
            switch (kind) {
                case CALL:
                    meetCall(mayGiveWay, a, b);
                    break;
                case CLEAR:
                    meetClear();
                    break;
                case CLEARED:
                    if (state == CLEARING) {
                        state = UNUSED;
                    }
                    break;
                default:
                    if (state == JOINED && partner != null) {
                        partner.put(kind, a, b);
                    }
                    break;
            }
        }

        void beLost() {
            Joint other = leave();
            if (other != null) {
                other.startClearing();
            }
        }

        private void meetCall(boolean mayGiveWay, int a, int b) {
            if (state == JOINED && mayGiveWay) {
                Joint other = leave();
                if (other != null) {
                    other.startClearing();
                }
            }
            if (state == UNUSED) {
                connect(a, b);
            }
        }

        private void meetClear() {
            boolean crossed = state == CLEARING;
            Joint other = leave();
            if (!crossed) {
                put(CLEARED, 0, 0);
            }
            if (other != null) {
                other.startClearing();
            }
        }

        private void connect(int a, int b) {
            Joint other = freeJointTo(a);
            if (other == null) {
                startClearing();
                return;
            }
            join(other);
            other.join(this);
            other.unanswered = true;
            other.put(CALL, a, b);
        }

        private void join(Joint other) {
            state = JOINED;
            partner = other;
            unanswered = false;
        }

        /** Makes this channel FREE; answers the partner that it had, or null. */
        private Joint leave() {
            Joint other = state == JOINED ? partner : null;
            state = UNUSED;
            partner = null;
            return other;
        }

        private Joint freeJointTo(int terminal) {
            if (terminal < 0 || terminal >= routes.length) {
                return null;
            }
            End way = routes[terminal];
            if (way == null || way == at || !way.isUp) {
                return null;
            }
            for (int i = 0; i < CHANNELS; i++) {
                // The two ends of a link seek from opposite sides, so that calls seldom meet.
                Channel channel = way.channels[way.isFirst ? CHANNELS - 1 - i : i];
                if (channel instanceof Joint joint && joint.state == UNUSED) {
                    return joint;
                }
            }
            return null;
        }
    }
}
