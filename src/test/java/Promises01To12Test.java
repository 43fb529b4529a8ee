/** The document's sections 'Promise 1: A new object' to 'Promise 12: go'. */
public final class Promises01To12Test {
    private static final int LOW = Integer.MIN_VALUE, HIGH = Integer.MAX_VALUE;

    public static void main(String[] args) {
        Sentences.run(Promises01To12Test.class);
    }

    // ---- 1 a new object

    @Says("`ViewBroadcast()`: No NODES, no COINS; SIZES as told; TIME 0.")
    static void p01ANewObjectHasNothing(Due d) {
        ViewBroadcast x = new ViewBroadcast();
        for (int what = 0; what < 8; what++) {
            d.due("told(" + what + ")", x.told(what), 0);
        }
        for (int kind = 0; kind < 13; kind++) {
            d.due("came(" + kind + ")", x.came(kind), 0);
        }
        d.due("even()", x.even(), 1);
        d.due("go(2000)", x.go(2000), 0);
        d.due("deliver(0)", x.deliver(0), -1);
        d.due("reach(0)", x.reach(0), -1);
        d.due("back(0)", x.back(0), -1);
        d.due("differs(0)", x.differs(0), -1);
    }

    @Says("`ViewBroadcast()`: No NODES, no COINS; SIZES as told; TIME 0.")
    static void p01TwoObjectsShareNothing(Due d) {
        ViewBroadcast x = Net.coins(Net.triangle(), 1, 2), y = new ViewBroadcast();
        x.tale(0);
        x.tick();
        x.keep(0);
        d.due("another has no NODES", y.told(0), 0);
        d.due("no COINS", y.told(6), 0);
        d.due("no TALES", y.told(4), 0);
        d.due("no LETTERS", y.told(2), 0);
        d.due("TIME 0", y.told(5), 0);
        d.due("nothing kept", y.back(0), -1);
        y.sizes(2, 2);
        Net.take(Net.with(x, 2), 0, 3);
        d.due("A of the first is 3 still", Net.active(x, 0), "1 2 3");
    }

    // ---- 2 sizes

    @Says("`int sizes(int a, int p)`: A, P: 1. OUTSIDE; STATE.")
    static void p02SizesAreTheLastOnesTold(Due d) {
        ViewBroadcast x = new ViewBroadcast();
        d.due("sizes(5, 8)", x.sizes(5, 8), 1);
        d.due("sizes(2, 3)", x.sizes(2, 3), 1);
        Net.take(Net.with(x, 8), 0, 1, 2, 3, 4, 5, 6);
        d.due("A 2, P 3", Net.active(x, 0) + " | " + Net.passive(x, 0), "5 6 | 2 3 4");
    }

    @Says("`int sizes(int a, int p)`: A, P: 1. OUTSIDE; STATE.")
    static void p02SizesAtTheEndsOfBoth(Due d) {
        int[][] good = {{2, 2}, {2, 8}, {5, 2}, {5, 8}}, bad = {{1, 2}, {2, 1}, {1, 8}, {2, 9}, {6, 2}, {5, 1}, {6, 8}, {5, 9}};
        for (int[] s : good) {
            d.due("sizes(" + s[0] + ", " + s[1] + ")", new ViewBroadcast().sizes(s[0], s[1]), 1);
        }
        for (int[] s : bad) {
            d.due("sizes(" + s[0] + ", " + s[1] + ")", new ViewBroadcast().sizes(s[0], s[1]), -2);
        }
    }

    @Says({"`int sizes(int a, int p)`: A, P: 1. OUTSIDE; STATE.", "SIZES: STATE: there are NODES."})
    static void p02SizesAreRefusedFromTheFirstNodeOn(Due d) {
        ViewBroadcast x = Net.coins(new ViewBroadcast(), 1);
        x.tick();
        d.due("with COINS and TIME, but no NODES", x.sizes(2, 2), 1);
        x.node();
        d.due("with a NODE", x.sizes(3, 5), -3);
        x.stop(0);
        d.due("with a NODE that stopped", x.sizes(3, 5), -3);
        Net.take(Net.with(x, 4), 1, 2, 3, 4);
        d.due("A is 2 still", Net.active(x, 1), "2 4");
    }

    // ---- 3 walks

    @Says("`int walks(int longWalk, int shortWalk, int wait)`: LONG, SHORT, WAIT: 1. OUTSIDE; STATE.")
    static void p03WalksAreTheLastOnesTold(Due d) {
        ViewBroadcast x = new ViewBroadcast();
        d.due("walks(6, 6, 20)", x.walks(6, 6, 20), 1);
        d.due("walks(3, 2, 1)", x.walks(3, 2, 1), 1);
        Net.triangle(x);
        x.node();
        Net.take(x, 0, 3);
        d.due("LONG 3", Net.letter(x, x.told(2) - 3), "2 0>1 3 3");
        Net.must(x, 2, 0, 1);
        d.due("not NOTED with 3 steps", x.how(1, 3), 0);
        Net.must(x, 2, 1, 2);
        d.due("SHORT 2: NOTED with 2", x.how(2, 3), 3);
    }

    @Says("`int walks(int longWalk, int shortWalk, int wait)`: LONG, SHORT, WAIT: 1. OUTSIDE; STATE.")
    static void p03WalksAtTheEndsOfAllThree(Due d) {
        int[][] good = {{1, 0, 1}, {1, 1, 1}, {1, 0, 20}, {1, 1, 20}, {6, 0, 1}, {6, 6, 1}, {6, 0, 20}, {6, 6, 20}};
        int[][] bad = {{0, 0, 1}, {7, 0, 1}, {1, -1, 1}, {1, 2, 1}, {6, 7, 1}, {6, -1, 20}, {1, 0, 0}, {1, 0, 21}, {7, 7, 20}};
        for (int[] w : good) {
            d.due("walks(" + w[0] + ", " + w[1] + ", " + w[2] + ")", new ViewBroadcast().walks(w[0], w[1], w[2]), 1);
        }
        for (int[] w : bad) {
            d.due("walks(" + w[0] + ", " + w[1] + ", " + w[2] + ")", new ViewBroadcast().walks(w[0], w[1], w[2]), -2);
        }
    }

    @Says("`int walks(int longWalk, int shortWalk, int wait)`: LONG, SHORT, WAIT: 1. OUTSIDE; STATE.")
    static void p03ShortIsSetAgainstTheLongToldWithIt(Due d) {
        ViewBroadcast x = new ViewBroadcast();
        d.due("walks(6, 5, 4), though LONG was 4", x.walks(6, 5, 4), 1);
        d.due("walks(1, 5, 4), though LONG was 6", x.walks(1, 5, 4), -2);
        d.due("walks(1, 1, 4)", x.walks(1, 1, 4), 1);
    }

    @Says({"`int walks(int longWalk, int shortWalk, int wait)`: LONG, SHORT, WAIT: 1. OUTSIDE; STATE.",
        "SIZES: STATE: there are NODES."})
    static void p03WalksAreRefusedFromTheFirstNodeOn(Due d) {
        ViewBroadcast x = new ViewBroadcast();
        x.walks(2, 0, 4);
        x.node();
        d.due("with a NODE", x.walks(4, 2, 4), -3);
        Net.take(Net.with(x, 2), 0, 1, 2);
        d.due("LONG is 2 still", Net.letter(x, 1), "2 0>1 2 2");
    }

    // ---- 4 coin

    @Says("`int coin(int v)`: A COIN more: how many. OUTSIDE: it is below 0; FULL: 64.")
    static void p04CoinAnswersHowMany(Due d) {
        ViewBroadcast x = new ViewBroadcast();
        for (int i = 1; i <= 64; i++) {
            d.due("coin, the " + i + "th", x.coin(i % 2 == 0 ? 0 : HIGH), i);
            d.due("told(6)", x.told(6), i);
        }
        d.due("coin, the 65th", x.coin(0), -4);
        d.due("told(6)", x.told(6), 64);
    }

    @Says("`int coin(int v)`: A COIN more: how many. OUTSIDE: it is below 0; FULL: 64.")
    static void p04CoinBelow0IsOutside(Due d) {
        ViewBroadcast x = new ViewBroadcast();
        for (int v : new int[] {-1, -2, LOW}) {
            d.due("coin(" + v + ")", x.coin(v), -2);
        }
        d.due("told(6)", x.told(6), 0);
        d.due("coin(0)", x.coin(0), 1);
    }

    @Says("`int coin(int v)`: A COIN more: how many. OUTSIDE: it is below 0; FULL: 64.")
    static void p04CoinsAreToldAtAnyTime(Due d) {
        ViewBroadcast x = Net.triangle();
        x.tale(0);
        d.due("with NODES, LETTERS and TALES", x.coin(1), 1);
        d.due("it is taken", x.mix(0), 2);
    }

    // ---- 5 node

    @Says("`int node()`: A NODE, alone: its number. FULL.")
    static void p05NodeIsAlone(Due d) {
        ViewBroadcast x = Net.triangle();
        d.due("node()", x.node(), 3);
        d.due("ACTIVE, PASSIVE", Net.active(x, 3) + " | " + Net.passive(x, 3), " | ");
        int[] due = {1, -6, 0, 0, 0, 0};
        for (int what = 0; what < 6; what++) {
            d.due("about(3, " + what + ")", x.about(3, what), due[what]);
        }
        d.due("reach(3)", x.reach(3), 1);
        d.due("no LETTER", x.told(2), 0);
    }

    @Says("`int node()`: A NODE, alone: its number. FULL.")
    static void p05NodeIsFullAt16EvenIfSomeStopped(Due d) {
        ViewBroadcast x = Net.of(15);
        x.stop(0);
        d.due("the 16th", x.node(), 15);
        d.due("the 17th", x.node(), -4);
        x.stop(15);
        d.due("the 17th, two stopped", x.node(), -4);
        d.due("told(0)", x.told(0), 16);
        d.due("told(1)", x.told(1), 14);
    }

    // ---- 6 join

    @Says("`int join(int node, int contact)`: A NODE joins by another one: LETTER 1 to that: how many LETTERS are in the ROW.")
    static void p06JoinSendsLetter1(Due d) {
        ViewBroadcast x = Net.of(16);
        d.due("join(0, 15)", x.join(0, 15), 1);
        d.due("join(15, 0)", x.join(15, 0), 2);
        d.due("join(0, 15) again", x.join(0, 15), 3);
        d.due("ROW", Net.row(x), "1 0>15 0 0, 1 15>0 0 0, 1 0>15 0 0");
        d.due("no view is another one yet", x.view(0, 0, -1) + x.view(15, 0, -1), 0);
    }

    @Says("how many LETTERS are in the ROW. UNKNOWN; STATE: one of both has stopped; NO: they are one.")
    static void p06JoinAnswers500OfAFullRow(Due d) {
        ViewBroadcast x = Net.of(2);
        for (int i = 1; i < 500; i++) {
            x.join(0, 1);
        }
        d.due("the 500th", x.join(0, 1), 500);
        d.due("the 501st", x.join(0, 1), 500);
    }

    @Says("UNKNOWN; STATE: one of both has stopped; NO: they are one.")
    static void p06JoinIsRefused(Due d) {
        ViewBroadcast x = Net.of(3);
        x.stop(2);
        for (int n : new int[] {LOW, -1, 3, 16, HIGH}) {
            d.due("join(" + n + ", 0)", x.join(n, 0), -1);
            d.due("join(0, " + n + ")", x.join(0, n), -1);
        }
        d.due("join(2, 0)", x.join(2, 0), -3);
        d.due("join(0, 2)", x.join(0, 2), -3);
        d.due("join(0, 0)", x.join(0, 0), -5);
        d.due("no LETTER", x.told(2), 0);
        d.due("none is SPILT", x.told(3), 0);
    }

    // ---- 7 stop

    @Says("`int stop(int node)`: A NODE stops: how many LETTERS went. UNKNOWN; STATE: it has.")
    static void p07StopAnswersHowManyLettersWent(Due d) {
        ViewBroadcast x = Net.of(16);
        d.due("stop(15), none", x.stop(15), 0);
        x.join(1, 0);
        d.due("stop(0), one", x.stop(0), 1);
        x.join(1, 2);
        x.join(3, 2);
        x.join(2, 1);
        d.due("stop(2), two, not the one from it", x.stop(2), 2);
        d.due("ROW", Net.row(x), "1 2>1 0 0, 12 2>1 0 0");
    }

    @Says("`int stop(int node)`: A NODE stops: how many LETTERS went. UNKNOWN; STATE: it has.")
    static void p07StopIsRefused(Due d) {
        ViewBroadcast x = Net.of(2);
        for (int n : new int[] {LOW, -1, 2, 16, HIGH}) {
            d.due("stop(" + n + ")", x.stop(n), -1);
        }
        d.due("stop(1)", x.stop(1), 0);
        d.due("stop(1) again", x.stop(1), -3);
        d.due("stop(0), the last LIVE one", x.stop(0), 0);
        d.due("LIVE ones", x.told(1), 0);
    }

    @Says("`int stop(int node)`: A NODE stops: how many LETTERS went. UNKNOWN; STATE: it has.")
    static void p07StopDoesNotTellTwice(Due d) {
        ViewBroadcast x = Net.pair();
        x.stop(1);
        d.due("one LETTER 12", Net.row(x), "12 1>0 0 0");
        d.due("stop(1) again", x.stop(1), -3);
        d.due("one LETTER 12 still", Net.row(x), "12 1>0 0 0");
    }

    // ---- 8 mix

    @Says("`int mix(int node)`: A NODE begins to MIX: whom it sent to. UNKNOWN; STATE: it has stopped; NO.")
    static void p08MixAnswersWhomItSentTo(Due d) {
        ViewBroadcast x = Net.of(16);
        Net.take(x, 0, 15);
        d.due("mix(0)", x.mix(0), 15);
        d.due("LETTER 7", Net.row(x, 1), "7 0>15 0 4 [0]");
        ViewBroadcast y = Net.of(16);
        Net.take(y, 15, 0);
        d.due("mix(15), NODE 0", y.mix(15), 0);
        d.due("LETTER 7", Net.row(y, 1), "7 15>0 15 4 [15]");
    }

    @Says("UNKNOWN; STATE: it has stopped; NO.")
    static void p08MixIsRefused(Due d) {
        ViewBroadcast x = Net.pair();
        for (int n : new int[] {LOW, -1, 2, 16, HIGH}) {
            d.due("mix(" + n + ")", x.mix(n), -1);
        }
        x.node();
        d.due("mix(2), none linked", x.mix(2), -5);
        x.stop(1);
        d.due("mix(1), stopped and linked", x.mix(1), -3);
        d.due("no LETTER 7", Net.count(x, 7), 0);
    }

    // ---- 9 tale

    @Says("`int tale(int node)`: A TALE begins at a NODE: its number. UNKNOWN; STATE: it has stopped; FULL.")
    static void p09TaleAnswersItsNumber(Due d) {
        ViewBroadcast x = Net.of(16);
        for (int t = 0; t < 24; t++) {
            d.due("tale(" + t % 16 + ")", x.tale(t % 16), t);
            d.due("told(4)", x.told(4), t + 1);
        }
        d.due("one more", x.tale(0), -4);
    }

    @Says("`int tale(int node)`: A TALE begins at a NODE: its number. UNKNOWN; STATE: it has stopped; FULL.")
    static void p09TaleIsRefused(Due d) {
        ViewBroadcast x = Net.pair();
        for (int n : new int[] {LOW, -1, 2, 16, HIGH}) {
            d.due("tale(" + n + ")", x.tale(n), -1);
        }
        x.stop(1);
        x.go(9);
        d.due("tale(1)", x.tale(1), -3);
        d.due("TALES", x.told(4), 0);
        d.due("no LETTER", x.told(2), 0);
        d.due("tale(0)", x.tale(0), 0);
    }

    // ---- 10 tick

    @Says("`int tick()`: A TICK: TIME.")
    static void p10TickAnswersTime(Due d) {
        ViewBroadcast x = Net.triangle();
        d.due("told(5)", x.told(5), 0);
        d.due("tick()", x.tick(), 1);
        d.due("tick()", x.tick(), 2);
        d.due("told(5)", x.told(5), 2);
    }

    // ---- 11 deliver

    @Says("`int deliver(int i)`: LETTER i of the ROW comes: its KIND. UNKNOWN; NO: it can't.")
    static void p11DeliverAnswersTheKindOfEach(Due d) {
        ViewBroadcast x = Net.walking(1, 0, 4);
        Net.with(x, 10);
        x.join(3, 9);
        d.due("JOIN", x.deliver(0), 1);
        d.due("WELCOME", x.deliver(0), 3);
        Net.take(x, 9, 1);
        d.due("WALK", Net.bring(x, 2, 9, 3), 2);
        Net.take(x, 9, 2, 0);
        Net.must(x, 2, 9, 3);
        d.due("PARTING", Net.bring(x, 4, 9, 3), 4);
        d.due("ASKING", Net.bring(x, 5, 3, 9), 5);
        d.due("REFUSAL", Net.bring(x, 6, 9, 3), 6);
        x.coin(2);
        d.due("mix(9)", x.mix(9), 0);
        d.due("MIX, WELCOME is ahead of it", Net.bring(x, 7, 9, 0), -5);
        Net.must(x, 3, 9, 0);
        d.due("MIX", Net.bring(x, 7, 9, 0), 7);
        d.due("MIXED", Net.bring(x, 8, 0, 9), 8);
    }

    @Says("`int deliver(int i)`: LETTER i of the ROW comes: its KIND. UNKNOWN; NO: it can't.")
    static void p11DeliverAnswersTheKindOfTalesAndStops(Due d) {
        ViewBroadcast x = Net.walking(4, 2, 1);
        Net.triangle(x);
        x.tale(0);
        d.due("TELL", x.deliver(1), 9);
        d.due("TELL", Net.bring(x, 9, 0, 1), 9);
        d.due("TELL", Net.bring(x, 9, 1, 2), 9);
        d.due("CHOICE with y 0", Net.bring(x, 11, 2, 1), -5);
        x.go(50);
        x.tale(0);
        x.deliver(0);
        d.due("NOTE", Net.bring(x, 10, 1, 2), 10);
        x.tick();
        d.due("CHOICE with y 1", Net.bring(x, 11, 2, 1), 11);
        x.stop(0);
        d.due("STOPPED", Net.bring(x, 12, 0, 1), 12);
    }

    @Says("`int deliver(int i)`: LETTER i of the ROW comes: its KIND. UNKNOWN; NO: it can't.")
    static void p11DeliverIsRefused(Due d) {
        ViewBroadcast x = Net.of(2);
        for (int i : new int[] {LOW, -1, 0, 1, 500, HIGH}) {
            d.due("deliver(" + i + ") of an empty ROW", x.deliver(i), -1);
        }
        x.join(0, 1);
        x.join(0, 1);
        d.due("deliver(2)", x.deliver(2), -1);
        d.due("deliver(-1)", x.deliver(-1), -1);
        d.due("deliver(1), one ahead of it", x.deliver(1), -5);
        d.due("came(0)", x.came(0), 0);
        d.due("deliver(0)", x.deliver(0), 1);
        d.due("deliver(0)", x.deliver(0), 1);
    }

    @Says("`int deliver(int i)`: LETTER i of the ROW comes: its KIND. UNKNOWN; NO: it can't.")
    static void p11DeliverTakesOneFromTheMiddle(Due d) {
        ViewBroadcast x = Net.of(6);
        x.join(1, 0);
        x.join(2, 0);
        x.join(3, 4);
        x.join(4, 0);
        d.due("deliver(2)", x.deliver(2), 1);
        d.due("the others stay in order", Net.row(x), "1 1>0 0 0, 1 2>0 0 0, 1 4>0 0 0, 3 4>3 0 0");
        d.due("deliver(3), the last", x.deliver(3), 3);
        d.due("the others stay in order", Net.row(x), "1 1>0 0 0, 1 2>0 0 0, 1 4>0 0 0");
    }

    // ---- 12 go

    @Says("`int go(int n)`: The first LETTER comes, n times (0 to 2000), as long as there is one: how many did. OUTSIDE.")
    static void p12GoIs0To2000(Due d) {
        ViewBroadcast x = Net.of(2);
        x.join(0, 1);
        for (int n : new int[] {LOW, -1, 2001, 2002, HIGH}) {
            d.due("go(" + n + ")", x.go(n), -2);
        }
        d.due("go(0)", x.go(0), 0);
        d.due("none came", x.came(0), 0);
        d.due("go(1)", x.go(1), 1);
        d.due("go(2000)", x.go(2000), 1);
        d.due("go(2000), none", x.go(2000), 0);
    }

    @Says("`int go(int n)`: The first LETTER comes, n times (0 to 2000), as long as there is one: how many did. OUTSIDE.")
    static void p12GoIsTheFirstEachTime(Due d) {
        ViewBroadcast x = Net.of(4), y = Net.of(4);
        for (ViewBroadcast v : new ViewBroadcast[] {x, y}) {
            v.join(1, 0);
            v.join(2, 0);
            v.join(3, 1);
        }
        d.due("go(7)", x.go(7), 7);
        for (int i = 0; i < 7; i++) {
            y.deliver(0);
        }
        d.due("as deliver(0), 7 times", Net.picture(x), Net.picture(y));
    }

    @Says("`int go(int n)`: The first LETTER comes, n times (0 to 2000), as long as there is one: how many did. OUTSIDE.")
    static void p12GoEndsAtNWithLettersLeft(Due d) {
        ViewBroadcast x = Net.walking(6, 0, 4);
        x.sizes(5, 8);
        Net.with(x, 16);
        for (int i = 0; i < 190; i++) {
            x.join(i % 16, (i + 1 + i / 16) % 16);
            x.go(i < 90 ? 50 : 0);
        }
        int before = x.came(0);
        d.due("LETTERS", x.told(2) >= 100 ? 1 : 0, 1);
        d.due("go(2000)", x.go(2000), 2000);
        d.due("all that came", x.came(0) - before, 2000);
        d.due("some are left", x.told(2) > 0 ? 1 : 0, 1);
        d.due("go(1)", x.go(1), 1);
    }
}
