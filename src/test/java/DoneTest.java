/** Promises 6 to 12: join, stop, mix, tale, tick, deliver, go. */
public final class DoneTest {
    private static final Due D = new Due("DoneTest");

    public static void main(String[] args) {
        join();
        rowIsFull();
        stop();
        whatIsSentToStopped();
        mix();
        tale();
        tick();
        hourAtLeastOne();
        deliver();
        go();
        D.end();
    }

    private static void join() {
        ViewBroadcast x = Net.of(4);
        D.due("join(0, 4)", x.join(0, 4), -1);
        D.due("join(4, 0)", x.join(4, 0), -1);
        D.due("join(-1, -1)", x.join(-1, -1), -1);
        D.due("join(2, 2)", x.join(2, 2), -5);
        D.due("join(1, 0)", x.join(1, 0), 1);
        D.due("join(1, 0) again", x.join(1, 0), 2);
        D.due("it is from", x.letter(0, 0), 1);
        D.due("it is to", x.letter(0, 1), 0);
        D.due("its KIND", x.letter(0, 2), 1);
        D.due("nobody is linked yet", x.view(0, 0, -1) + x.view(1, 0, -1), 0);
        x.stop(3);
        D.due("join(3, 0)", x.join(3, 0), -3);
        D.due("join(0, 3)", x.join(0, 3), -3);
        D.due("join(3, 3)", x.join(3, 3), -3);
        D.due("join(3, 9)", x.join(3, 9), -1);
        D.due("LETTERS", x.told(2), 2);
    }

    private static void rowIsFull() {
        ViewBroadcast x = Net.of(2);
        for (int i = 1; i <= 500; i++) {
            D.due("join, the " + i + "th", x.join(0, 1), i);
        }
        D.due("join, one too many", x.join(0, 1), 500);
        D.due("SPILT", x.told(3), 1);
        D.due("the first comes, and makes room for one", x.deliver(0), 1);
        D.due("LETTERS", x.told(2), 500);
        D.due("its answer is last", x.letter(499, 2), 3);
        D.due("SPILT still", x.told(3), 1);
        x.go(2000);
        D.due("all came", x.came(0), 1000);
        D.due("the ROW is empty", x.told(2), 0);
    }

    private static void stop() {
        ViewBroadcast x = Net.triangle();
        D.due("stop(3)", x.stop(3), -1);
        D.due("stop(-1)", x.stop(-1), -1);
        x.node();
        x.node();
        x.join(1, 0);
        x.join(0, 1);
        x.join(2, 1);
        x.join(1, 3);
        D.due("stop(1): two LETTERS to it went", x.stop(1), 2);
        D.due("stop(1) again", x.stop(1), -3);
        D.due("LETTERS", x.told(2), 5);
        D.due("from it stays", x.letter(0, 1) * 10 + x.letter(1, 1), 3);
        for (int i = 2; i < 5; i++) {
            D.due("LETTER 12, sender", x.letter(i, 0), 1);
            D.due("LETTER 12, to those linked and those it wrote to", x.letter(i, 1), new int[] {0, 2, 3}[i - 2]);
            D.due("LETTER 12, KIND", x.letter(i, 2), 12);
        }
        D.due("LIVE ones", x.told(1), 4);
        D.due("its view stays", Net.list(x, 1, 0), 0x13);
        x.go(100);
        D.due("0 is linked with it no more", x.how(0, 1), 0);
        D.due("2 is linked with it no more", x.how(2, 1), 0);
        D.due("3 neither", x.how(3, 1), 0);
        ViewBroadcast alone = Net.of(1);
        D.due("stop(0), alone", alone.stop(0), 0);
        D.due("no LETTER", alone.told(2), 0);
    }

    private static void whatIsSentToStopped() {
        ViewBroadcast x = Net.triangle();
        x.stop(1);
        D.due("two LETTERS 12", x.told(2), 2);
        x.tale(0);
        D.due("LETTERS 12, 12, to 1 a 12 instead, to 2 a 9", x.told(2), 4);
        D.due("in its place, KIND", x.letter(2, 2), 12);
        D.due("in its place, sender", x.letter(2, 0), 1);
        D.due("in its place, receiver", x.letter(2, 1), 0);
        D.due("in its place, x and y", x.letter(2, 3) + x.letter(2, 4), 0);
        D.due("behind it the other", x.letter(3, 2) * 10 + x.letter(3, 1), 92);
        D.due("0 knows when it comes", x.how(0, 1), 1);
        x.go(4);
        D.due("0 knows", x.how(0, 1), 0);
        D.due("came(12)", x.came(12), 3);
    }

    private static void mix() {
        ViewBroadcast x = new ViewBroadcast();
        x.walks(1, 0, 4);
        Net.with(x, 10);
        D.due("mix(10)", x.mix(10), -1);
        D.due("mix(0), none linked", x.mix(0), -5);
        Net.star(x, 9);
        D.due("ACTIVE", Net.list(x, 0, 0), 0x89A);
        x.coin(1);
        x.coin(1);
        x.coin(4);
        x.coin(7);
        D.due("mix(0) by COIN 1 of 3", x.mix(0), 8);
        int i = x.told(2) - 1;
        D.due("KIND", x.letter(i, 2), 7);
        D.due("x", x.letter(i, 3), 0);
        D.due("y is LONG", x.letter(i, 4), 1);
        D.due("COINS: 1 of 3; 1 of 2, the other alone; 4 of 5, 7 of 4", x.told(7), 0);
        D.due("LIST", Net.listOf(x, i), 0x1A876);
        D.due("LIST has no more", x.letter(i, 15), -6);
        x.stop(5);
        D.due("mix(5), stopped", x.mix(5), -3);
        D.due("mix(-1)", x.mix(-1), -1);
        x.stop(0);
        D.due("mix(0), stopped", x.mix(0), -3);
    }

    private static void tale() {
        ViewBroadcast x = Net.triangle();
        D.due("tale(3)", x.tale(3), -1);
        for (int t = 0; t < 24; t++) {
            D.due("tale(0)", x.tale(0), t);
            D.due("HEARD at once", x.heard(0, t), 0);
            D.due("not elsewhere", x.heard(1, t), -6);
            D.due("LETTERS", x.told(2), 2 * t + 2);
            D.due("KIND", x.letter(2 * t, 2), 9);
            D.due("in order", x.letter(2 * t, 1), 1);
            D.due("x", x.letter(2 * t + 1, 3), t);
            D.due("y", x.letter(2 * t + 1, 4), 1);
        }
        D.due("tale(0), one too many", x.tale(0), -4);
        D.due("TALES", x.told(4), 24);
        x.stop(1);
        D.due("tale(1), stopped and full", x.tale(1), -3);
        D.due("tale(9), full", x.tale(9), -1);
    }

    /** NODE 2 MISSES tale 1, of which 1 told, who is LAZY to it. */
    private static ViewBroadcast missing(int wait) {
        ViewBroadcast x = new ViewBroadcast();
        x.walks(4, 2, wait);
        Net.triangle(x);
        x.tale(0);
        x.go(50);
        x.tale(0);
        x.deliver(0);
        x.deliver(1);
        return x;
    }

    private static void tick() {
        ViewBroadcast x = missing(5);
        D.due("1 told", x.missed(2, 1), 1);
        for (int time = 1; time < 5; time++) {
            D.due("tick()", x.tick(), time);
            D.due("not yet", x.missed(2, 1), 1);
            D.due("no LETTER", x.told(2), 1);
        }
        D.due("tick()", x.tick(), 5);
        D.due("the first goes", x.missed(2, 1), 0);
        D.due("MISSED still", x.about(2, 4), 1);
        D.due("it is EAGER", x.how(2, 1), 1);
        D.due("LETTER 11", x.letter(1, 2), 11);
        D.due("from and to", x.letter(1, 0) * 10 + x.letter(1, 1), 21);
        D.due("x the TALE", x.letter(1, 3), 1);
        D.due("y 1", x.letter(1, 4), 1);
        D.due("tick(), half of WAIT is 2", x.tick(), 6);
        D.due("MISSED still", x.about(2, 4), 1);
        D.due("tick()", x.tick(), 7);
        D.due("none is left: MISSED no more", x.about(2, 4), 0);
        D.due("LETTERS", x.told(2), 2);
        D.due("the CHOICE comes", x.deliver(1), 11);
        D.due("2 is EAGER to 1", x.how(1, 2), 1);
        D.due("it is told", x.letter(1, 2), 9);
        D.due("with HOPS and 1", x.letter(1, 4), 2);
        D.due("the TALE comes", x.deliver(1), 9);
        D.due("HEARD so", x.heard(2, 1), 2);
    }

    private static void hourAtLeastOne() {
        ViewBroadcast x = missing(1);
        x.tick();
        D.due("asked", x.missed(2, 1), 0);
        D.due("MISSED still", x.about(2, 4), 1);
        x.tick();
        D.due("one TICK behind", x.about(2, 4), 0);
        ViewBroadcast stopped = missing(1);
        stopped.stop(2);
        stopped.tick();
        D.due("one that stopped does nothing", stopped.missed(2, 1), 1);
        ViewBroadcast parted = missing(4);
        parted.stop(1);
        parted.go(3);
        D.due("it HEARD", parted.heard(2, 1), 1);
    }

    private static void deliver() {
        ViewBroadcast x = Net.of(4);
        D.due("deliver(0), none", x.deliver(0), -1);
        x.join(1, 0);
        x.join(2, 0);
        x.join(1, 0);
        x.join(0, 1);
        D.due("deliver(4)", x.deliver(4), -1);
        D.due("deliver(-1)", x.deliver(-1), -1);
        D.due("deliver(2), one ahead of it", x.deliver(2), -5);
        D.due("nothing came", x.came(0), 0);
        D.due("deliver(3), another way", x.deliver(3), 1);
        D.due("1 took 0", Net.list(x, 1, 0), 1);
        D.due("deliver(1)", x.deliver(1), 1);
        D.due("deliver(1), one ahead of it", x.deliver(1), -5);
        D.due("deliver(0)", x.deliver(0), 1);
        D.due("deliver(0), now it can", x.deliver(0), 1);
        D.due("came(1)", x.came(1), 4);
    }

    private static void go() {
        ViewBroadcast x = Net.of(3);
        D.due("go(-1)", x.go(-1), -2);
        D.due("go(2001)", x.go(2001), -2);
        x.join(1, 0);
        x.join(2, 0);
        D.due("go(0)", x.go(0), 0);
        D.due("LETTERS", x.told(2), 2);
        D.due("go(1)", x.go(1), 1);
        D.due("the first came", Net.list(x, 0, 0), 2);
        D.due("the second is first", x.letter(0, 0), 2);
        D.due("go(2000)", x.go(2000), 5);
        D.due("go(2000), none", x.go(2000), 0);
    }
}
