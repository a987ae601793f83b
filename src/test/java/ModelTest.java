import java.util.Random;
import java.util.TreeMap;

/** Long runs of calls, drawn with fixed seeds, in which CircuitNet and the model must agree. */
public final class ModelTest {
    private static final int RUNS = 600;
    private static final int DRAWS = 12;
    private static final int RINGING = 2;
    private static final int OPEN = 3;
    private static final int CALLS = 512;
    private static int wrong = 0;

    private final Random random;
    private final CircuitNet net = new CircuitNet();
    private final Model model = new Model();
    private final StringBuilder story = new StringBuilder();
    private final int losses;
    private final int ticks;
    private final int longTicks;
    private final int deliveries;
    private final int clears;
    private int p;
    private int c;
    private int link;
    private int end;

    private ModelTest(long seed) {
        random = new Random(seed);
        losses = random.nextInt(2) * random.nextInt(3) * random.nextInt(8);
        ticks = random.nextInt(2) * random.nextInt(12);
        longTicks = random.nextInt(4) == 0 ? 1 : 0;
        deliveries = 20 + random.nextInt(80);
        clears = random.nextInt(5);
    }

    public static void main(String[] args) {
        for (int run = 0; run < RUNS && wrong == 0; run++) {
            new ModelTest(run).play(run);
        }
        if (args.length > 0) {
            new TreeMap<>(Model.reached).forEach((k, v) -> System.out.println(v + "\t" + k));
        }
        System.out.println(wrong == 0 ? "all answers are as due" : wrong + " answers are not as due");
        if (wrong != 0) {
            System.exit(1);
        }
    }

    private void play(int run) {
        for (int i = 0; i < CALLS && wrong == 0; i++) {
            step();
            lookAtAll();
        }
        if (wrong != 0) {
            System.out.println("run " + run + ":" + story);
        }
    }

    private void step() {
        int pick = random.nextInt(45 + losses + ticks + longTicks + deliveries + clears);
        if (pick < 8) {
            int p = near(4);
            int to = near(4);
            told("call(" + p + ", " + to + ")", net.call(p, to), model.call(p, to));
        } else if (pick < 45) {
            stepOnChannel(pick);
        } else {
            stepBelow(pick - 45);
        }
    }

    private void stepOnChannel(int pick) {
        drawChannel(pick < 16 ? RINGING : OPEN, pick >= 30 && pick < 43);
        if (pick < 16) {
            told("answer(" + p + ", " + c + ")", one(net.answer(p, c)), model.answer(p, c));
        } else if (pick < 30) {
            int v = random.nextInt(20) == 0 ? random.nextInt(600) - 300 : random.nextInt(256);
            told("send(" + p + ", " + c + ", " + v + ")", net.send(p, c, v), model.send(p, c, v));
        } else if (pick < 43) {
            told("read(" + p + ", " + c + ")", net.read(p, c), model.read(p, c));
        } else {
            told("reset(" + p + ", " + c + ")", one(net.reset(p, c)), model.reset(p, c));
        }
    }

    private void stepBelow(int pick) {
        drawEnd();
        if (pick < losses) {
            told("lose(" + link + ", " + end + ")", one(net.lose(link, end)), model.lose(link, end));
        } else if (pick < losses + ticks) {
            int n = 1 + random.nextInt(4);
            told("tick(" + n + ")", one(net.tick(n)), model.tick(n));
        } else if (pick < losses + ticks + longTicks) {
            int n = random.nextInt(46) - 2;
            told("tick(" + n + ")", one(net.tick(n)), model.tick(n));
        } else if (pick < losses + ticks + longTicks + clears) {
            drawChannel(random.nextInt(6), false);
            told("clear(" + p + ", " + c + ")", one(net.clear(p, c)), model.clear(p, c));
        } else {
            told("deliver(" + link + ", " + end + ")", one(net.deliver(link, end)),
                    model.deliver(link, end));
        }
    }

    /** Most draws should find something to do, or the runs would not get far. */
    private void drawChannel(int state, boolean withValues) {
        for (int i = 0; i < DRAWS; i++) {
            p = near(4);
            c = 1 + near(3);
            if (model.state(p, c) == state && (!withValues || model.unread(p, c) > 0)) {
                return;
            }
        }
    }

    private void drawEnd() {
        for (int i = 0; i < DRAWS; i++) {
            link = near(5);
            end = near(2);
            if (model.frames(link, end) > 0) {
                return;
            }
        }
    }

    /** Mostly 0 .. n - 1, now and then a little beside. */
    private int near(int n) {
        return random.nextInt(100) == 0 ? random.nextInt(n + 4) - 2 : random.nextInt(n);
    }

    /** The calls that change nothing; they do not count towards the 512. */
    private void lookAtAll() {
        for (int i = 0; i < 4; i++) {
            for (int j = 1; j <= 3; j++) {
                same("state", i, j, net.state(i, j), model.state(i, j));
                same("peer", i, j, net.peer(i, j), model.peer(i, j));
                same("unread", i, j, net.unread(i, j), model.unread(i, j));
            }
        }
        for (int i = 0; i < 5; i++) {
            for (int j = 0; j < 2; j++) {
                lookAtEnd(i, j);
            }
        }
    }

    private void lookAtEnd(int i, int j) {
        same("row", i, j, net.row(i, j), model.row(i, j));
        same("epoch", i, j, net.epoch(i, j), model.epoch(i, j));
        same("up", i, j, one(net.up(i, j)), model.up(i, j));
        same("busy", i, j, net.busy(i, j), model.busy(i, j));
        int n = model.frames(i, j);
        same("frames", i, j, net.frames(i, j), n);
        for (int k = 0; k <= n; k++) {
            for (int w = 0; w <= 8; w++) {
                int want = model.frame(i, j, k, w);
                same("frame " + k + " word " + w + " of", i, j, net.frame(i, j, k, w), want);
            }
        }
    }

    private static int one(boolean b) {
        return b ? 1 : 0;
    }

    private void told(String call, int got, int want) {
        story.append(' ').append(call).append(' ').append(got).append(';');
        if (got != want) {
            wrong++;
            System.out.println(call + " answered " + got + ", due is " + want);
        }
    }

    private void same(String what, int i, int j, int got, int want) {
        if (got != want) {
            wrong++;
            System.out.println(what + "(" + i + ", " + j + ") answered " + got + ", due is " + want);
        }
    }
}
