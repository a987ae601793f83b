import java.util.Random;

/**
 * "a call that is refused changes nothing", not even what cannot be seen yet: of two objects one gets,
 * beside the calls of the other, many that it refuses, and both must go on in the same way.
 */
public final class RefusalTest {
    private static final int RUNS = 80;
    private static final int STEPS = 300;
    private static final int REFUSED = 6;
    private static final int NONE = -1;
    private static int refusals = 0;

    private final Random random;
    private final CircuitNet plain = new CircuitNet();
    private final CircuitNet pestered = new CircuitNet();

    private RefusalTest(long seed) {
        random = new Random(seed);
    }

    public static void main(String[] args) {
        Check.edge("a call that is refused changes nothing", () -> {
            for (int run = 0; run < RUNS; run++) {
                new RefusalTest(run).play();
            }
        });
        Check.due("there were refusals", refusals > RUNS * STEPS, true);
        Check.finish();
    }

    private void play() {
        for (int i = 0; i < STEPS; i++) {
            for (int k = 0; k < REFUSED; k++) {
                step();
            }
            if (!Nets.picture(plain).equals(Nets.picture(pestered))) {
                Check.due("both are the same", false, true);
                return;
            }
        }
    }

    /** A call that the pestered object refuses is kept from the plain one. */
    private void step() {
        int kind = random.nextInt(28);
        int x = random.nextInt(7) - 1;
        int y = random.nextInt(6) - 1;
        int v = random.nextInt(300) - 20;
        int got = make(pestered, kind, x, y, v);
        if (got == NONE || got == CircuitNet.FULL) {
            refusals++;
            return;
        }
        Check.due("the plain one answers the same", make(plain, kind, x, y, v), got);
    }

    private static int make(CircuitNet net, int kind, int x, int y, int v) {
        switch (kind) {
            case 0: case 1:
                return net.call(x, y);
            case 2: case 3: case 4:
                return told(net.answer(x, y));
            case 5:
                return v % 8 == 0 ? told(net.clear(x, y)) : NONE;
            case 6:
                return v % 4 == 0 ? told(net.reset(x, y)) : NONE;
            case 7: case 8: case 9: case 10:
                return net.send(x, y, v);
            case 11: case 12: case 13: case 14:
                return net.read(x, y);
            case 15:
                return x < 1 || v % 8 == 0 ? told(net.tick(x)) : NONE;
            case 16:
                return told(net.tick(42 + x));
            case 17:
                return v % 8 == 0 ? told(net.lose(x, y % 3)) : NONE;
            default:
                return told(net.deliver(x, y % 3));
        }
    }

    private static int told(boolean done) {
        return done ? 1 : NONE;
    }
}
