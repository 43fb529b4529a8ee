/** Promises 13 to 23: view, how, heard, missed, about, letter, even, reach, came, spread, told. */
public final class ReadTest {
    private static final Due D = new Due("ReadTest");
    private static final int LOW = Integer.MIN_VALUE, HIGH = Integer.MAX_VALUE;

    public static void main(String[] args) {
        view();
        how();
        heard();
        missed();
        about();
        letter();
        even();
        reach();
        came();
        spread();
        told();
        D.end();
    }

    private static void view() {
        ViewBroadcast x = Net.of(6);
        Net.star(x, 5);
        int[] active = {3, 4, 5, -6}, passive = {1, 2, -6};
        for (int i = 0; i < active.length; i++) {
            D.due("view(0, 0, " + i + ")", x.view(0, 0, i), active[i]);
        }
        for (int i = 0; i < passive.length; i++) {
            D.due("view(0, 1, " + i + ")", x.view(0, 1, i), passive[i]);
        }
        D.due("view(0, 0, -1)", x.view(0, 0, -1), 3);
        D.due("view(0, 1, -1)", x.view(0, 1, -1), 2);
        for (int i : new int[] {-2, LOW, HIGH, 16}) {
            D.due("view(0, 0, " + i + ")", x.view(0, 0, i), -6);
        }
        for (int which : new int[] {-1, 2, LOW, HIGH}) {
            D.due("view(0, " + which + ", 0)", x.view(0, which, 0), -2);
        }
        for (int n : new int[] {-1, 6, LOW, HIGH}) {
            D.due("view(" + n + ", 2, 0)", x.view(n, 2, 0), -1);
        }
        x.stop(0);
        D.due("view of a stopped one", x.view(0, 0, -1), 3);
    }

    private static void how() {
        ViewBroadcast x = Net.triangle();
        x.node();
        x.tale(0);
        x.go(50);
        D.due("EAGER", x.how(0, 1), 1);
        D.due("LAZY", x.how(1, 2), 2);
        D.due("no", x.how(0, 3), 0);
        D.due("itself", x.how(0, 0), 0);
        for (int n : new int[] {-1, 4, LOW, HIGH}) {
            D.due("how(" + n + ", 0)", x.how(n, 0), -1);
            D.due("how(0, " + n + ")", x.how(0, n), -1);
        }
        ViewBroadcast y = Net.of(5);
        Net.star(y, 4);
        D.due("PASSIVE", y.how(0, 1), 3);
    }

    private static void heard() {
        ViewBroadcast x = Net.triangle();
        D.due("heard(0, 0), no TALE", x.heard(0, 0), -1);
        x.tale(2);
        x.go(1);
        D.due("heard(2, 0)", x.heard(2, 0), 0);
        D.due("heard(0, 0)", x.heard(0, 0), 1);
        D.due("heard(1, 0)", x.heard(1, 0), -6);
        for (int n : new int[] {-1, 3, LOW, HIGH}) {
            D.due("heard(" + n + ", 0)", x.heard(n, 0), -1);
        }
        for (int t : new int[] {-1, 1, LOW, HIGH}) {
            D.due("heard(0, " + t + ")", x.heard(0, t), -1);
        }
        D.due("the second hop comes first", Net.bring(x, 9, 0, 1), 9);
        D.due("heard(1, 0)", x.heard(1, 0), 2);
    }

    private static void missed() {
        ViewBroadcast x = Net.triangle();
        D.due("missed(0, 0), no TALE", x.missed(0, 0), -1);
        x.tale(0);
        x.go(50);
        x.tale(0);
        x.deliver(0);
        D.due("not yet", x.missed(2, 1), 0);
        x.deliver(1);
        D.due("one told", x.missed(2, 1), 1);
        x.deliver(0);
        D.due("HEARD: none", x.missed(2, 1), 0);
        for (int n : new int[] {-1, 3, LOW, HIGH}) {
            D.due("missed(" + n + ", 0)", x.missed(n, 0), -1);
        }
        for (int t : new int[] {-1, 2, LOW, HIGH}) {
            D.due("missed(0, " + t + ")", x.missed(0, t), -1);
        }
    }

    private static void about() {
        ViewBroadcast x = Net.triangle();
        int[] fresh = {1, -6, 0, 0, 0, 2};
        for (int what = 0; what < 6; what++) {
            D.due("about(1, " + what + ")", x.about(1, what), fresh[what]);
        }
        for (int what : new int[] {-1, 6, LOW, HIGH}) {
            D.due("about(0, " + what + ")", x.about(0, what), -2);
        }
        for (int n : new int[] {-1, 3, LOW, HIGH}) {
            D.due("about(" + n + ", 9)", x.about(n, 9), -1);
        }
        x.tale(1);
        x.tale(1);
        D.due("about(1, 3)", x.about(1, 3), 2);
        x.stop(1);
        D.due("about(1, 0), stopped", x.about(1, 0), 0);
        D.due("about(1, 3), stopped", x.about(1, 3), 2);
    }

    private static void letter() {
        ViewBroadcast x = Net.pair();
        x.mix(0);
        x.tale(1);
        int[] first = {0, 1, 7, 0, 4, 1}, second = {1, 0, 9, 0, 1, 0};
        for (int what = 0; what < 6; what++) {
            D.due("letter(0, " + what + ")", x.letter(0, what), first[what]);
            D.due("letter(1, " + what + ")", x.letter(1, what), second[what]);
        }
        D.due("letter(0, 10)", x.letter(0, 10), 0);
        D.due("letter(0, 11)", x.letter(0, 11), -6);
        D.due("letter(1, 10)", x.letter(1, 10), -6);
        D.due("letter(0, HIGH)", x.letter(0, HIGH), -6);
        for (int what : new int[] {-1, 6, 7, 8, 9, LOW}) {
            D.due("letter(0, " + what + ")", x.letter(0, what), -2);
        }
        for (int i : new int[] {-1, 2, LOW, HIGH}) {
            D.due("letter(" + i + ", 9)", x.letter(i, 9), -1);
        }
    }

    private static void even() {
        ViewBroadcast x = Net.of(2);
        x.join(1, 0);
        D.due("even()", x.even(), 1);
        x.go(1);
        D.due("0 has 1 alone", x.even(), 0);
        x.stop(1);
        D.due("but 1 stopped", x.even(), 1);
        ViewBroadcast y = Net.of(2);
        y.join(0, 1);
        y.go(1);
        D.due("1 has 0 alone", y.even(), 0);
        y.go(1);
        D.due("both", y.even(), 1);
    }

    private static void reach() {
        ViewBroadcast x = Net.of(6);
        D.due("reach(0), alone", x.reach(0), 1);
        x.join(1, 0);
        x.go(1);
        D.due("reach(0), linked", x.reach(0), 2);
        D.due("reach(1), not yet", x.reach(1), 1);
        x.go(1);
        x.join(2, 1);
        x.deliver(0);
        x.join(3, 2);
        x.deliver(Net.find(x, 1, 3, 2));
        D.due("reach(0), 0 - 1 - 2 - 3, one way", x.reach(0), 4);
        x.stop(1);
        D.due("reach(0), 1 stopped", x.reach(0), 1);
        D.due("reach(1), stopped", x.reach(1), -3);
        D.due("reach(2)", x.reach(2), 2);
        for (int n : new int[] {-1, 6, LOW, HIGH}) {
            D.due("reach(" + n + ")", x.reach(n), -1);
        }
    }

    private static void came() {
        ViewBroadcast x = Net.triangle();
        x.tale(0);
        x.go(50);
        x.stop(2);
        x.go(50);
        int[] due = {14, 2, 1, 3, 0, 0, 0, 0, 0, 4, 0, 2, 2};
        for (int kind = 0; kind < due.length; kind++) {
            D.due("came(" + kind + ")", x.came(kind), due[kind]);
        }
        for (int kind : new int[] {-1, 13, LOW, HIGH}) {
            D.due("came(" + kind + ")", x.came(kind), -2);
        }
    }

    private static void spread() {
        ViewBroadcast x = Net.triangle();
        D.due("spread(0), no TALE", x.spread(0), -1);
        x.tale(0);
        D.due("spread(0)", x.spread(0), 1);
        x.go(1);
        D.due("spread(0)", x.spread(0), 2);
        x.stop(0);
        D.due("spread(0), one stopped", x.spread(0), 1);
        x.go(50);
        D.due("spread(0)", x.spread(0), 2);
        for (int t : new int[] {-1, 1, LOW, HIGH}) {
            D.due("spread(" + t + ")", x.spread(t), -1);
        }
    }

    private static void told() {
        ViewBroadcast x = Net.triangle();
        x.coin(1);
        x.coin(2);
        x.tale(0);
        x.tick();
        x.stop(2);
        D.due("mix(0) takes a COIN", x.mix(0), 2);
        int[] due = {3, 2, 4, 0, 1, 1, 2, 1};
        for (int what = 0; what < due.length; what++) {
            D.due("told(" + what + ")", x.told(what), due[what]);
        }
        for (int what : new int[] {-1, 8, LOW, HIGH}) {
            D.due("told(" + what + ")", x.told(what), -2);
        }
    }
}
