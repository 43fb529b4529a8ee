import java.util.Arrays;

/** Long runs of chosen calls, each answer and all that can be read set against the Model. */
public final class ModelTest {
    private static final int RUNS = 150, CALLS = 512;
    private static final Due DUE = new Due("ModelTest");

    private final ViewBroadcast x = new ViewBroadcast();
    private final Model m = new Model();
    private final int run;
    private int calls = 0;
    private long seed;

    private ModelTest(int run) {
        this.run = run;
        this.seed = run * 7919L + 17;
    }

    public static void main(String[] args) {
        for (int run = 1; run <= RUNS; run++) {
            new ModelTest(run).play();
        }
        DUE.end();
    }

    private int any(int n) {
        seed = seed * 6364136223846793005L + 1442695040888963407L;
        return (int) Math.floorMod(seed >>> 33, (long) n);
    }

    /** Mostly one of 0 to n less 1, at times one beyond. */
    private int near(int n) {
        if (any(25) == 0 || n < 1) {
            return new int[] {-1, n, n + 1, Integer.MIN_VALUE, Integer.MAX_VALUE}[any(5)];
        }
        return any(n);
    }

    private void due(String call, int got, int want, int... with) {
        calls++;
        if (got != want) {
            DUE.due("run " + run + ", call " + calls + ": " + call + Arrays.toString(with), got, want);
        }
    }

    private void play() {
        setUp();
        int haste = any(3);
        while (calls < CALLS) {
            act(haste);
            compareAll();
        }
    }

    private void setUp() {
        for (int i = any(4); i > 0; i--) {
            int a = any(6) + 1, p = any(9) + 1, l = any(8), s = any(5), w = any(22);
            due("sizes", x.sizes(a, p), m.sizes(a, p));
            due("walks", x.walks(l, s, w), m.walks(l, s, w));
        }
        for (int i = any(3) * any(30); i > 0; i--) {
            coin();
        }
        for (int i = any(17); i > 0; i--) {
            due("node", x.node(), m.node());
        }
    }

    private void coin() {
        int v = any(30) == 0 ? near(1) : any(1000);
        due("coin", x.coin(v), m.coin(v));
    }

    private void act(int haste) {
        int nodes = m.told(0), a = near(nodes), b = near(nodes);
        switch (any(24)) {
            case 0: rareAct(); break;
            case 1: case 2: case 3: case 4: due("join", x.join(a, b), m.join(a, b)); break;
            case 5: case 6: case 7: due("mix", x.mix(a), m.mix(a)); break;
            case 8: case 9: due("tale", x.tale(a), m.tale(a)); break;
            case 10: case 11: case 12: due("tick", x.tick(), m.tick()); break;
            case 13: case 14: case 15: case 16: case 17: case 18: deliver(); break;
            case 19: if (any(6) == 0) { due("stop", x.stop(a), m.stop(a)); } else { deliver(); } break;
            case 20: stateAct(); break;
            default: go(haste); break;
        }
    }

    private void rareAct() {
        switch (any(4)) {
            case 0: coin(); break;
            case 1: due("node", x.node(), m.node()); break;
            case 2: due("sizes", x.sizes(2, 2), m.sizes(2, 2)); break;
            default: due("walks", x.walks(2, 2, 2), m.walks(2, 2, 2)); break;
        }
    }

    private void stateAct() {
        int k = near(2);
        if (any(2) == 0) {
            due("keep", x.keep(k), m.keep(k));
        } else if (any(4) == 0) {
            due("back", x.back(k), m.back(k));
        }
    }

    private void deliver() {
        int i = near(m.told(2));
        due("deliver", x.deliver(i), m.deliver(i));
    }

    /** In hasty runs the ROW is emptied often, in others it fills up. */
    private void go(int haste) {
        int n = any(20) == 0 ? near(2001) : any(haste == 0 ? 3 : haste == 1 ? 12 : 60);
        due("go", x.go(n), m.go(n));
    }

    private void compareAll() {
        int before = calls;
        for (int what = -1; what < 9; what++) {
            due("told", x.told(what), m.told(what), what);
        }
        for (int kind = -1; kind < 14; kind++) {
            due("came", x.came(kind), m.came(kind), kind);
        }
        for (int k = -1; k < 3; k++) {
            due("differs", x.differs(k), m.differs(k), k);
        }
        due("even", x.even(), m.even());
        for (int n = -1; n <= m.told(0); n++) {
            compareNode(n);
        }
        compareRow();
        calls = before;
    }

    private void compareNode(int n) {
        due("reach", x.reach(n), m.reach(n), n);
        for (int what = -1; what < 7; what++) {
            due("about", x.about(n, what), m.about(n, what), n, what);
        }
        for (int which = -1; which < 3; which++) {
            for (int i = -2; i < 9; i++) {
                due("view", x.view(n, which, i), m.view(n, which, i), n, which, i);
            }
        }
        for (int q = -1; q <= m.told(0); q++) {
            due("how", x.how(n, q), m.how(n, q), n, q);
        }
        for (int t = -1; t <= m.told(4); t++) {
            due("heard", x.heard(n, t), m.heard(n, t), n, t);
            due("missed", x.missed(n, t), m.missed(n, t), n, t);
            due("spread", x.spread(t), m.spread(t), t);
        }
    }

    private void compareRow() {
        for (int i = -1; i <= m.told(2); i++) {
            for (int what = -1; what < 17; what++) {
                due("letter", x.letter(i, what), m.letter(i, what), i, what);
            }
        }
    }
}
