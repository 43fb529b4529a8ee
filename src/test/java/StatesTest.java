/** Promises 24 to 26: keep, back, differs. */
public final class StatesTest {
    private static final Due D = new Due("StatesTest");

    public static void main(String[] args) {
        places();
        allIsKept();
        sizesAreKept();
        newNodesAfterBack();
        missesNothingAfterBack();
        spiltIsKept();
        differs();
        differsInOrder();
        D.end();
    }

    private static void places() {
        ViewBroadcast x = Net.pair();
        for (int k : new int[] {-1, 2, Integer.MIN_VALUE, Integer.MAX_VALUE}) {
            D.due("keep(" + k + ")", x.keep(k), -1);
            D.due("back(" + k + ")", x.back(k), -1);
            D.due("differs(" + k + ")", x.differs(k), -1);
        }
        D.due("back(0), nothing kept", x.back(0), -1);
        D.due("differs(0), nothing kept", x.differs(0), -1);
        D.due("keep(0)", x.keep(0), 1);
        D.due("back(1), nothing kept", x.back(1), -1);
        x.node();
        D.due("keep(1)", x.keep(1), 1);
        D.due("back(0)", x.back(0), 2);
        D.due("back(1)", x.back(1), 3);
        D.due("back(0) once more", x.back(0), 2);
        x.tick();
        D.due("keep(0) anew", x.keep(0), 1);
        x.tick();
        x.back(0);
        D.due("TIME as kept anew", x.told(5), 1);
    }

    private static void allIsKept() {
        ViewBroadcast x = Net.triangle();
        x.coin(3);
        x.coin(0);
        x.node();
        x.tale(0);
        x.go(50);
        x.tale(0);
        x.deliver(0);
        x.deliver(1);
        x.mix(1);
        x.tick();
        x.keep(0);
        long before = picture(x);
        x.coin(9);
        x.mix(0);
        x.mix(0);
        x.tale(1);
        x.join(3, 0);
        x.go(2000);
        x.tick();
        x.stop(2);
        x.node();
        D.due("it is another one", picture(x) == before ? 1 : 0, 0);
        D.due("back(0)", x.back(0), 4);
        D.due("all as it was", picture(x), before);
        D.due("COINS stay", x.told(6), 3);
        D.due("which one is next", x.told(7), 1);
        D.due("stopped since: LIVE", x.about(2, 0), 1);
        x.tick();
        x.tick();
        x.tick();
        D.due("the hour as it was", x.told(2) + 10 * x.letter(2, 2), 113);
    }

    private static long picture(ViewBroadcast x) {
        long sum = 7;
        for (int what = 0; what < 8; what++) {
            sum = sum * 31 + (what == 6 ? 0 : x.told(what));
        }
        for (int kind = 0; kind < 13; kind++) {
            sum = sum * 31 + x.came(kind);
        }
        for (int n = 0; n < x.told(0); n++) {
            sum = sum * 31 + Net.list(x, n, 0) * 17 + Net.list(x, n, 1);
            for (int i = 0; i < 6; i++) {
                sum = sum * 31 + x.about(n, i);
            }
            for (int q = 0; q < x.told(0); q++) {
                sum = sum * 31 + x.how(n, q);
            }
            for (int t = 0; t < x.told(4); t++) {
                sum = sum * 31 + x.heard(n, t) * 31 + x.missed(n, t);
            }
        }
        for (int i = 0; i < x.told(2); i++) {
            for (int what = 0; what < 6; what++) {
                sum = sum * 31 + x.letter(i, what);
            }
            sum = sum * 31 + Net.listOf(x, i);
        }
        return sum;
    }

    private static void sizesAreKept() {
        ViewBroadcast x = new ViewBroadcast();
        x.sizes(2, 2);
        x.walks(1, 1, 1);
        x.keep(0);
        x.sizes(5, 8);
        x.walks(6, 0, 20);
        Net.with(x, 6);
        D.due("back(0): no NODES", x.back(0), 0);
        Net.with(x, 6);
        Net.star(x, 5);
        D.due("A", x.view(0, 0, -1), 2);
        D.due("P", x.view(0, 1, -1), 2);
        D.due("LONG", x.letter(Net.find(x, 2, 0, 1), 4), 1);
    }

    private static void newNodesAfterBack() {
        ViewBroadcast x = Net.triangle();
        x.keep(0);
        x.node();
        x.join(3, 0);
        x.go(50);
        x.tale(3);
        x.tale(3);
        x.go(50);
        x.stop(3);
        x.back(0);
        D.due("node()", x.node(), 3);
        D.due("alone", x.view(3, 0, -1) + x.view(3, 1, -1), 0);
        D.due("LIVE", x.about(3, 0), 1);
        D.due("HEARD nothing", x.about(3, 3), 0);
        D.due("nothing came", x.about(3, 5), 0);
        x.tale(0);
        D.due("HEARD not", x.heard(3, 0), -6);
    }

    /** NODE 2 MISSES a TALE; then, by back, it is one that is not there yet. */
    private static void missesNothingAfterBack() {
        ViewBroadcast x = Net.of(2);
        x.keep(0);
        x.back(0);
        x.node();
        x.join(1, 0);
        x.go(2);
        x.join(2, 0);
        x.go(4);
        x.tale(0);
        x.go(50);
        x.tale(0);
        x.deliver(0);
        x.deliver(1);
        D.due("2 MISSES one", x.about(2, 4), 1);
        x.back(0);
        x.node();
        D.due("a new 2 MISSES none", x.about(2, 4), 0);
        x.tale(1);
        x.tale(1);
        D.due("nobody told it", x.missed(2, 1), 0);
    }

    private static void spiltIsKept() {
        ViewBroadcast x = Net.of(2);
        for (int i = 0; i < 501; i++) {
            x.join(0, 1);
        }
        x.keep(0);
        x.join(0, 1);
        D.due("SPILT", x.told(3), 2);
        x.back(0);
        D.due("SPILT as kept", x.told(3), 1);
        D.due("LETTERS as kept", x.told(2), 500);
    }

    private static void differsInOrder() {
        ViewBroadcast x = Net.of(3);
        x.keep(0);
        x.join(1, 0);
        x.go(1);
        D.due("one more is ACTIVE", x.differs(0), 0);
        x.join(2, 0);
        Net.bring(x, 1, 2, 0);
        x.keep(1);
        x.back(0);
        x.join(2, 0);
        x.go(1);
        x.join(1, 0);
        Net.bring(x, 1, 1, 0);
        D.due("the same in another order", x.differs(1), 0);
        ViewBroadcast y = Net.of(6);
        Net.star(y, 3);
        y.keep(0);
        y.mix(0);
        D.due("same", y.differs(0), -6);
        y.coin(1);
        y.join(4, 0);
        Net.bring(y, 1, 4, 0);
        y.join(2, 0);
        Net.bring(y, 1, 2, 0);
        D.due("ACTIVE", Net.list(y, 0, 0), 0x253);
        D.due("other", y.differs(0), 0);
    }

    private static void differs() {
        ViewBroadcast x = Net.triangle();
        x.node();
        x.keep(0);
        D.due("differs(0)", x.differs(0), -6);
        x.tick();
        x.mix(0);
        D.due("TIME and LETTERS do not count", x.differs(0), -6);
        x.tale(2);
        D.due("HEARD", x.differs(0), 2);
        x.go(1);
        x.back(0);
        D.due("back: none", x.differs(0), -6);
        x.node();
        D.due("one but here", x.differs(0), 4);
        x.keep(1);
        x.back(0);
        D.due("one but there", x.differs(1), 4);
        x.tale(0);
        x.go(50);
        x.keep(0);
        x.tale(0);
        x.go(50);
        x.stop(3);
        D.due("HEARD once more", x.differs(0), 0);
        ViewBroadcast y = Net.triangle();
        y.tale(0);
        y.go(4);
        y.keep(0);
        D.due("the CHOICE is there", y.letter(0, 2), 11);
        D.due("it changes nothing, LAZY already", y.deliver(0) * 100 + y.differs(0), 1094);
        y.tale(1);
        y.keep(1);
        y.go(1);
        D.due("same", y.differs(1), -6);
        ViewBroadcast z = Net.triangle();
        z.tale(0);
        z.go(2);
        z.keep(0);
        z.go(1);
        D.due("LAZY instead of EAGER", z.differs(0), 2);
    }
}
