/** Promises 1 to 5: a new object, sizes, walks, coin, node. */
public final class ToldTest {
    private static final Due D = new Due("ToldTest");

    public static void main(String[] args) {
        newObject();
        defaults();
        sizes();
        walks();
        coin();
        coinsAreTakenInTurn();
        node();
        D.end();
    }

    private static void newObject() {
        ViewBroadcast x = new ViewBroadcast();
        for (int what = 0; what < 8; what++) {
            D.due("told(" + what + ") of a new one", x.told(what), 0);
        }
        for (int kind = 0; kind < 13; kind++) {
            D.due("came(" + kind + ") of a new one", x.came(kind), 0);
        }
        D.due("even() of a new one", x.even(), 1);
        D.due("view(0, 0, -1) of a new one", x.view(0, 0, -1), -1);
        D.due("letter(0, 0) of a new one", x.letter(0, 0), -1);
        D.due("spread(0) of a new one", x.spread(0), -1);
        D.due("back(0) of a new one", x.back(0), -1);
        D.due("differs(1) of a new one", x.differs(1), -1);
        D.due("go(5) of a new one", x.go(5), 0);
        D.due("tick() of a new one", x.tick(), 1);
    }

    /** Two objects, one with the SIZES told that hold at first: they answer alike. */
    private static void defaults() {
        ViewBroadcast x = new ViewBroadcast(), y = new ViewBroadcast();
        y.sizes(3, 5);
        y.walks(4, 2, 4);
        ViewBroadcast z = new ViewBroadcast();
        z.walks(4, 1, 4);
        boolean other = false;
        for (ViewBroadcast v : new ViewBroadcast[] {x, y, z}) {
            Net.with(v, 12);
        }
        for (int i = 0; i < 400; i++) {
            int a = i * 7 % 12, b = i * 5 % 11;
            for (int c = 0; c < 5; c++) {
                int got = call(x, c, a, b), want = call(y, c, a, b);
                D.due("defaults, " + i + ", " + c, got, want);
                other |= got != call(z, c, a, b);
            }
        }
        D.due("another SHORT answers otherwise", other ? 1 : 0, 1);
    }

    private static int call(ViewBroadcast x, int c, int a, int b) {
        switch (c) {
            case 0: return x.join(a, b);
            case 1: return x.go(7) + 100 * x.view(a, 1, -1) + 1000 * x.view(b, 0, 0);
            case 2: return x.mix(b);
            case 3: return x.tale(a);
            default: return x.tick() * 100 + x.told(2) + 10000 * x.about(b, 4);
        }
    }

    private static void sizes() {
        ViewBroadcast x = new ViewBroadcast();
        int[][] bad = {{1, 5}, {6, 5}, {3, 1}, {3, 9}, {0, 0}, {-1, 5}, {3, Integer.MIN_VALUE}, {Integer.MAX_VALUE, 5}};
        for (int[] b : bad) {
            D.due("sizes(" + b[0] + ", " + b[1] + ")", x.sizes(b[0], b[1]), -2);
        }
        D.due("sizes(5, 8)", x.sizes(5, 8), 1);
        D.due("sizes(2, 2)", x.sizes(2, 2), 1);
        Net.with(x, 8);
        D.due("sizes(3, 3) with NODES", x.sizes(3, 3), -3);
        D.due("sizes(1, 3) with NODES", x.sizes(1, 3), -2);
        Net.star(x, 7);
        D.due("ACTIVE of 2", Net.list(x, 0, 0), 0x78);
        D.due("PASSIVE of 2", Net.list(x, 0, 1), 0x56);
        ViewBroadcast y = Net.with(new ViewBroadcast(), 10);
        Net.star(y, 9);
        D.due("ACTIVE of 3 at first", Net.list(y, 0, 0), 0x89A);
        D.due("PASSIVE of 5 at first", Net.list(y, 0, 1), 0x34567);
        ViewBroadcast z = new ViewBroadcast();
        z.sizes(5, 8);
        Net.with(z, 16);
        Net.star(z, 15);
        D.due("ACTIVE of 5", Net.list(z, 0, 0), 0xCDEF0L + 16);
        D.due("PASSIVE of 8", Net.list(z, 0, 1), 0x456789ABL);
    }

    private static void walks() {
        ViewBroadcast x = new ViewBroadcast();
        int[][] bad = {{0, 0, 4}, {7, 2, 4}, {4, -1, 4}, {4, 5, 4}, {4, 2, 0}, {4, 2, 21}, {3, 4, 1}, {Integer.MIN_VALUE, 0, 1}};
        for (int[] b : bad) {
            D.due("walks(" + b[0] + ", " + b[1] + ", " + b[2] + ")", x.walks(b[0], b[1], b[2]), -2);
        }
        D.due("walks(1, 0, 1)", x.walks(1, 0, 1), 1);
        D.due("walks(1, 1, 20)", x.walks(1, 1, 20), 1);
        D.due("walks(6, 6, 20)", x.walks(6, 6, 20), 1);
        Net.triangle(x);
        D.due("walks(4, 2, 4) with NODES", x.walks(4, 2, 4), -3);
        D.due("walks(4, 5, 4) with NODES", x.walks(4, 5, 4), -2);
        x.node();
        x.join(3, 0);
        x.go(1);
        D.due("steps of a WALK", x.letter(Net.find(x, 2, 0, 1), 4), 6);
        Net.bring(x, 2, 0, 1);
        D.due("NOTED at SHORT steps", Net.list(x, 1, 1), 4);
        D.due("steps of it then", x.letter(Net.find(x, 2, 1, 2), 4), 5);
        Net.bring(x, 2, 1, 2);
        D.due("not NOTED at other steps", x.view(2, 1, -1), 0);
    }

    private static void coin() {
        ViewBroadcast x = new ViewBroadcast();
        D.due("coin(-1)", x.coin(-1), -2);
        D.due("coin(MIN)", x.coin(Integer.MIN_VALUE), -2);
        for (int i = 1; i <= 64; i++) {
            D.due("coin, the " + i + "th", x.coin(i == 1 ? 0 : Integer.MAX_VALUE), i);
        }
        D.due("coin, one too many", x.coin(1), -4);
        D.due("coin(-1) of a full one", x.coin(-1), -2);
        D.due("COINS", x.told(6), 64);
    }

    private static void coinsAreTakenInTurn() {
        ViewBroadcast x = new ViewBroadcast();
        x.sizes(2, 8);
        x.coin(5);
        x.coin(4);
        Net.with(x, 9);
        Net.star(x, 2);
        D.due("no COIN for none", x.told(7), 0);
        x.join(3, 0);
        Net.bring(x, 1, 3, 0);
        D.due("5 leaves 1 by 2", Net.list(x, 0, 0), 0x24);
        D.due("the second COIN is next", x.told(7), 1);
        x.join(4, 0);
        Net.bring(x, 1, 4, 0);
        D.due("4 leaves 0 by 2", Net.list(x, 0, 0), 0x45);
        D.due("behind the last one the first", x.told(7), 0);
        x.coin(7);
        D.due("a COIN more is not next", x.told(7), 0);
        D.due("PASSIVE in order", Net.list(x, 0, 1), 0x32);
        ViewBroadcast one = Net.pair();
        one.coin(3);
        D.due("one of one is DRAWN", one.mix(0), 1);
        D.due("without a COIN", one.told(7), 0);
    }

    private static void node() {
        ViewBroadcast x = new ViewBroadcast();
        for (int n = 0; n < 16; n++) {
            D.due("node()", x.node(), n);
            D.due("alone, ACTIVE", x.view(n, 0, -1), 0);
            D.due("alone, PASSIVE", x.view(n, 1, -1), 0);
            D.due("LIVE", x.about(n, 0), 1);
        }
        D.due("node(), one too many", x.node(), -4);
        x.stop(3);
        D.due("node(), though one stopped", x.node(), -4);
        D.due("NODES", x.told(0), 16);
    }
}
