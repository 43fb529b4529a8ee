/** The document's sections 'Promise 13: view' to 'Promise 26: differs'. */
public final class Promises13To26Test {
    private static final int LOW = Integer.MIN_VALUE, HIGH = Integer.MAX_VALUE;

    public static void main(String[] args) {
        Sentences.run(Promises13To26Test.class);
    }

    /** 0: [1, 2], 1: [0, 2], 2: [0, 1]; 1 and 2 are LAZY to each other. TALE 0 is HEARD by all. */
    private static ViewBroadcast lazy() {
        ViewBroadcast x = Net.triangle();
        x.tale(0);
        x.go(50);
        return x;
    }

    /** lazy(), and 2 MISSES TALE 1, of which 1 told. */
    private static ViewBroadcast missing() {
        ViewBroadcast x = lazy();
        x.tale(0);
        Net.must(x, 9, 0, 1);
        Net.must(x, 10, 1, 2);
        return x;
    }

    // ---- 13 view

    @Says("`int view(int node, int which, int i)`: NODE i of a view (which = 0 ACTIVE, 1 PASSIVE) of a NODE; NONE; i = -1: how many.")
    static void p13ViewIsReadInOrder(Due d) {
        ViewBroadcast x = Net.sized(5, 8, 16);
        Net.take(x, 0, 1, 2, 3, 4, 5, 6, 7, 8, 9, 10, 11, 12, 13);
        int[] active = {9, 10, 11, 12, 13}, passive = {1, 2, 3, 4, 5, 6, 7, 8};
        d.due("view(0, 0, -1)", x.view(0, 0, -1), 5);
        d.due("view(0, 1, -1)", x.view(0, 1, -1), 8);
        for (int i = 0; i < 5; i++) {
            d.due("view(0, 0, " + i + ")", x.view(0, 0, i), active[i]);
        }
        for (int i = 0; i < 8; i++) {
            d.due("view(0, 1, " + i + ")", x.view(0, 1, i), passive[i]);
        }
        d.due("view(0, 0, 5)", x.view(0, 0, 5), -6);
        d.due("view(0, 1, 8)", x.view(0, 1, 8), -6);
    }

    @Says("NODE i of a view (which = 0 ACTIVE, 1 PASSIVE) of a NODE; NONE; i = -1: how many.")
    static void p13ViewHasNoneBeyondItsEnds(Due d) {
        ViewBroadcast x = Net.of(6);
        for (int which = 0; which < 2; which++) {
            d.due("view(5, " + which + ", -1), empty", x.view(5, which, -1), 0);
            d.due("view(5, " + which + ", 0), empty", x.view(5, which, 0), -6);
        }
        Net.take(x, 0, 1, 2, 3, 4);
        for (int i : new int[] {LOW, -2, 3, 4, 5, 8, HIGH}) {
            d.due("view(0, 0, " + i + ")", x.view(0, 0, i), -6);
        }
        for (int i : new int[] {LOW, -2, 1, 5, 8, HIGH}) {
            d.due("view(0, 1, " + i + ")", x.view(0, 1, i), -6);
        }
        d.due("view(0, 0, 2)", x.view(0, 0, 2), 4);
        d.due("view(0, 1, 0)", x.view(0, 1, 0), 1);
    }

    @Says("UNKNOWN: the NODE; OUTSIDE: which.")
    static void p13ViewIsRefused(Due d) {
        ViewBroadcast x = Net.of(2);
        for (int n : new int[] {LOW, -1, 2, 16, HIGH}) {
            d.due("view(" + n + ", 0, -1)", x.view(n, 0, -1), -1);
        }
        for (int which : new int[] {LOW, -1, 2, HIGH}) {
            d.due("view(1, " + which + ", -1)", x.view(1, which, -1), -2);
        }
        d.due("view(1, 0, -1)", x.view(1, 0, -1), 0);
        d.due("view(1, 1, -1)", x.view(1, 1, -1), 0);
    }

    @Says("NODE i of a view (which = 0 ACTIVE, 1 PASSIVE) of a NODE; NONE; i = -1: how many.")
    static void p13ViewOfOneThatStoppedIsAsItWas(Due d) {
        ViewBroadcast x = Net.of(5);
        Net.take(x, 0, 1, 2, 3, 4);
        x.stop(0);
        d.due("ACTIVE, PASSIVE", Net.active(x, 0) + " | " + Net.passive(x, 0), "2 3 4 | 1");
    }

    // ---- 14 how

    @Says("`int how(int node, int other)`: Whether another NODE is in a NODE's ACTIVE view: 0 no, 1 EAGER, 2 LAZY; 3: it is in the PASSIVE view. UNKNOWN.")
    static void p14HowIs0To3(Due d) {
        ViewBroadcast x = Net.with(lazy(), 2);
        d.due("no", x.how(1, 3), 0);
        d.due("EAGER", x.how(1, 0), 1);
        d.due("LAZY", x.how(1, 2), 2);
        x.coin(1);
        Net.take(x, 1, 3, 4);
        d.due("it was LAZY, and is in the PASSIVE view", x.how(1, 2), 3);
        d.due("the other way it is LAZY still", x.how(2, 1), 2);
        d.due("itself", x.how(1, 1), 0);
    }

    @Says("3: it is in the PASSIVE view. UNKNOWN.")
    static void p14HowIsRefused(Due d) {
        ViewBroadcast x = Net.of(2);
        for (int n : new int[] {LOW, -1, 2, 16, 31, 32, HIGH}) {
            d.due("how(" + n + ", 0)", x.how(n, 0), -1);
            d.due("how(0, " + n + ")", x.how(0, n), -1);
            d.due("how(" + n + ", " + n + ")", x.how(n, n), -1);
        }
        d.due("how(1, 0)", x.how(1, 0), 0);
    }

    // ---- 15 heard, 16 missed

    @Says("`int heard(int node, int tale)`: HOPS with which a NODE HEARD a TALE; NONE: it did not. UNKNOWN.")
    static void p15HeardIsHopsOrNone(Due d) {
        ViewBroadcast x = Net.triangle();
        x.tale(2);
        d.due("it began there", x.heard(2, 0), 0);
        d.due("not HEARD", x.heard(1, 0), -6);
        Net.must(x, 9, 2, 0);
        Net.must(x, 9, 0, 1);
        d.due("one hop", x.heard(0, 0), 1);
        d.due("two hops", x.heard(1, 0), 2);
        x.stop(1);
        d.due("by one that stopped", x.heard(1, 0), 2);
    }

    @Says("HOPS with which a NODE HEARD a TALE; NONE: it did not. UNKNOWN.")
    static void p15HeardIsRefused(Due d) {
        ViewBroadcast x = Net.of(2);
        d.due("heard(0, 0) without a TALE", x.heard(0, 0), -1);
        x.tale(0);
        for (int n : new int[] {LOW, -1, 2, 16, HIGH}) {
            d.due("heard(" + n + ", 0)", x.heard(n, 0), -1);
        }
        for (int t : new int[] {LOW, -1, 1, 24, HIGH}) {
            d.due("heard(0, " + t + ")", x.heard(0, t), -1);
        }
        d.due("heard(1, 0)", x.heard(1, 0), -6);
        d.due("heard(0, 0)", x.heard(0, 0), 0);
    }

    @Says("`int missed(int node, int tale)`: How many told a NODE of a TALE that it MISSES; 0. UNKNOWN.")
    static void p16MissedIsHowManyTold(Due d) {
        ViewBroadcast x = lazy();
        x.node();
        x.join(3, 0);
        x.go(50);
        x.tale(0);
        x.go(50);
        int t = x.tale(0);
        d.due("nobody yet", x.missed(3, t), 0);
        Net.must(x, 9, 0, 1);
        Net.must(x, 10, 1, 3);
        d.due("one", x.missed(3, t), 1);
        Net.must(x, 9, 0, 2);
        Net.must(x, 10, 2, 3);
        d.due("two", x.missed(3, t), 2);
        d.due("of another TALE", x.missed(3, 0), 0);
        d.due("another NODE", x.missed(1, t), 0);
        Net.must(x, 9, 0, 3);
        d.due("HEARD", x.missed(3, t), 0);
    }

    @Says("How many told a NODE of a TALE that it MISSES; 0. UNKNOWN.")
    static void p16MissedIsRefused(Due d) {
        ViewBroadcast x = Net.of(2);
        d.due("missed(0, 0) without a TALE", x.missed(0, 0), -1);
        x.tale(0);
        for (int n : new int[] {LOW, -1, 2, 16, HIGH}) {
            d.due("missed(" + n + ", 0)", x.missed(n, 0), -1);
        }
        for (int t : new int[] {LOW, -1, 1, 24, HIGH}) {
            d.due("missed(0, " + t + ")", x.missed(0, t), -1);
        }
        d.due("missed(1, 0)", x.missed(1, 0), 0);
    }

    // ---- 17 about

    @Says({"0 whether it is LIVE (1, 0), 1 the one it ASKS (NONE), 2 those ASKED (that refused since this mending began) as bits"})
    static void p17AboutLiveAsksAndAsked(Due d) {
        ViewBroadcast x = Net.walking(1, 0, 4);
        Net.with(x, 16);
        Net.take(x, 9, 15, 1, 2, 0);
        x.coin(2);
        x.mix(9);
        Net.must(x, 3, 9, 0);
        Net.must(x, 7, 9, 0);
        d.due("0 has", Net.active(x, 0) + " | " + Net.passive(x, 0), "9 | 1 2 15");
        Net.take(x, 15, 4, 5, 6);
        Net.take(x, 1, 4, 5, 6);
        Net.take(x, 0, 7);
        d.due("ASKS none", x.about(0, 1), -6);
        x.stop(7);
        Net.must(x, 12, 7, 0);
        d.due("LIVE", x.about(0, 0), 1);
        d.due("stopped", x.about(7, 0), 0);
        d.due("ASKS", x.about(0, 1), 15);
        d.due("none refused yet", x.about(0, 2), 0);
        Net.must(x, 5, 0, 15);
        Net.must(x, 6, 15, 0);
        d.due("ASKS", x.about(0, 1), 1);
        d.due("15 refused", x.about(0, 2), 1 << 15);
        Net.must(x, 5, 0, 1);
        Net.must(x, 6, 1, 0);
        d.due("15 and 1 refused", x.about(0, 2), 1 << 15 | 2);
    }

    @Says("1 the one it ASKS (NONE), 2 those ASKED (that refused since this mending began) as bits")
    static void p17AboutNode0AskedAndRefusing(Due d) {
        ViewBroadcast x = Net.sized(2, 5, 8);
        x.walks(1, 0, 4);
        Net.link(x, 0, 1);
        Net.take(x, 1, 2);
        Net.take(x, 0, 3, 4);
        d.due("0 dropped 1", Net.active(x, 0), "3 4");
        Net.must(x, 2, 0, 1);
        Net.must(x, 4, 0, 1);
        d.due("1 has", Net.active(x, 1) + " | " + Net.passive(x, 1), "2 | 0");
        d.due("1 ASKS 0", x.about(1, 1), 0);
        Net.take(x, 1, 5);
        Net.must(x, 2, 1, 0);
        Net.must(x, 5, 1, 0);
        Net.must(x, 6, 0, 1);
        d.due("1 ASKS none", x.about(1, 1), -6);
        d.due("0 refused", x.about(1, 2), 1);
    }

    @Says("3 how many TALES it HEARD, 4 how many it MISSES, 5 LETTERS that came to it.")
    static void p17AboutTalesAndLetters(Due d) {
        ViewBroadcast x = missing();
        d.due("0 HEARD", x.about(0, 3), 2);
        d.due("2 HEARD", x.about(2, 3), 1);
        d.due("2 MISSES", x.about(2, 4), 1);
        d.due("0 MISSES", x.about(0, 4), 0);
        ViewBroadcast y = Net.pair();
        d.due("LETTERS to 0", y.about(0, 5), 1);
        d.due("LETTERS to 1", y.about(1, 5), 1);
        y.join(0, 1);
        d.due("not yet", y.about(1, 5), 1);
        y.go(1);
        d.due("then it came", y.about(1, 5), 2);
        y.join(0, 1);
        y.stop(1);
        d.due("what went did not come", y.about(1, 5), 2);
    }

    @Says("3 how many TALES it HEARD, 4 how many it MISSES, 5 LETTERS that came to it.")
    static void p17AboutAll24Tales(Due d) {
        ViewBroadcast x = lazy();
        for (int t = 1; t < 24; t++) {
            x.tale(1);
        }
        d.due("1 HEARD", x.about(1, 3), 24);
        for (int t = 1; t < 24; t++) {
            Net.must(x, 10, 1, 2);
        }
        d.due("2 MISSES", x.about(2, 4), 23);
        d.due("2 HEARD", x.about(2, 3), 1);
        d.due("missed(2, 23)", x.missed(2, 23), 1);
    }

    @Says({"`int about(int node, int what)`: Of a NODE:", "5 LETTERS that came to it. UNKNOWN; OUTSIDE."})
    static void p17AboutIsRefused(Due d) {
        ViewBroadcast x = Net.of(2);
        for (int n : new int[] {LOW, -1, 2, 16, HIGH}) {
            d.due("about(" + n + ", 0)", x.about(n, 0), -1);
        }
        for (int what : new int[] {LOW, -1, 6, 7, HIGH}) {
            d.due("about(1, " + what + ")", x.about(1, what), -2);
        }
        d.due("about(1, 0)", x.about(1, 0), 1);
        d.due("about(1, 5)", x.about(1, 5), 0);
    }

    // ---- 18 letter

    @Says("`int letter(int i, int what)`: Of LETTER i of the ROW: 0 sender, 1 receiver, 2 KIND, 3 x, 4 y, 5 how many its LIST has, 10 and k: NODE k of it (NONE).")
    static void p18LetterIsReadAtBothEndsOfTheRow(Due d) {
        ViewBroadcast x = Net.sized(3, 5, 8);
        Net.take(x, 0, 1, 2, 3, 4, 5);
        x.mix(0);
        int last = x.told(2) - 1;
        int[] first = {0, 1, 3, 0, 0, 0}, mix = {0, 3, 7, 0, 4, 5}, list = {0, 4, 5, 1, 2};
        for (int what = 0; what < 6; what++) {
            d.due("letter(0, " + what + ")", x.letter(0, what), first[what]);
            d.due("letter(last, " + what + ")", x.letter(last, what), mix[what]);
        }
        for (int k = 0; k < 5; k++) {
            d.due("letter(last, " + (10 + k) + ")", x.letter(last, 10 + k), list[k]);
            d.due("letter(0, " + (10 + k) + ")", x.letter(0, 10 + k), -6);
        }
        for (int what : new int[] {15, 16, 100, HIGH}) {
            d.due("letter(last, " + what + ")", x.letter(last, what), -6);
        }
    }

    @Says("10 and k: NODE k of it (NONE). UNKNOWN; OUTSIDE.")
    static void p18LetterIsRefused(Due d) {
        ViewBroadcast x = Net.of(2);
        for (int i : new int[] {LOW, -1, 0, 1, HIGH}) {
            d.due("letter(" + i + ", 0) of an empty ROW", x.letter(i, 0), -1);
        }
        x.join(0, 1);
        for (int i : new int[] {LOW, -1, 1, 500, HIGH}) {
            d.due("letter(" + i + ", 0)", x.letter(i, 0), -1);
            d.due("letter(" + i + ", 10)", x.letter(i, 10), -1);
        }
        for (int what : new int[] {LOW, -1, 6, 7, 8, 9}) {
            d.due("letter(0, " + what + ")", x.letter(0, what), -2);
        }
        d.due("letter(0, 5)", x.letter(0, 5), 0);
        d.due("letter(0, 10)", x.letter(0, 10), -6);
    }

    @Says("(x, y that a KIND does not have are 0.)")
    static void p18LetterHas0ForXAndYThatItsKindDoesNotHave(Due d) {
        ViewBroadcast x = missing();
        x.node();
        x.mix(2);
        Net.take(x, 0, 3);
        x.stop(2);
        StringBuilder wrong = new StringBuilder();
        String kinds = "";
        x.tale(1);
        x.join(3, 1);
        for (int i = 0; i < x.told(2); i++) {
            int kind = x.letter(i, 2);
            kinds += kind + " ";
            boolean hasX = kind == 2 || kind == 5 || kind == 7 || kind >= 9 && kind <= 11;
            boolean hasY = kind == 2 || kind == 7 || kind == 9 || kind == 11;
            if (!hasX && x.letter(i, 3) != 0 || !hasY && x.letter(i, 4) != 0) {
                wrong.append(Net.letter(x, i)).append(", ");
            }
        }
        d.due("LETTERS with what they do not have, of KINDS " + kinds, wrong.toString(), "");
    }

    @Says("(x, y that a KIND does not have are 0.)")
    static void p18ALetterInThePlaceOfAnotherHasNothingOfIt(Due d) {
        ViewBroadcast x = Net.sized(3, 5, 8);
        Net.take(x, 0, 1, 2, 3, 4, 5);
        x.mix(0);
        x.go(40);
        for (int i = 0; i < 500; i++) {
            x.join(6, 7);
        }
        x.stop(7);
        x.go(500);
        for (int i = 0; i < 500; i++) {
            x.join(0, 6);
        }
        d.due("LETTERS", x.told(2), 500);
        for (int i = 0; i < 500; i++) {
            d.due("LETTER " + i, Net.letter(x, i), "1 0>6 0 0");
        }
    }

    // ---- 19 even, 20 reach

    @Says("`int even()`: Whether of each two LIVE NODES each is in the other's ACTIVE view, if the other is in its: 1, 0.")
    static void p19EvenWithoutNodesOrLinks(Due d) {
        ViewBroadcast x = new ViewBroadcast();
        d.due("no NODES", x.even(), 1);
        Net.with(x, 16);
        d.due("no links", x.even(), 1);
    }

    @Says("Whether of each two LIVE NODES each is in the other's ACTIVE view, if the other is in its: 1, 0.")
    static void p19EvenOfOneSidedLinks(Due d) {
        for (int[] pair : new int[][] {{0, 1}, {1, 0}, {14, 15}, {15, 14}, {0, 15}, {15, 0}}) {
            ViewBroadcast x = Net.of(16);
            Net.take(x, pair[1], pair[0]);
            d.due("but one has the other", x.even(), 0);
            Net.must(x, 3, pair[1], pair[0]);
            d.due("both", x.even(), 1);
            ViewBroadcast y = Net.of(16);
            Net.take(y, pair[1], pair[0]);
            y.stop(pair[0]);
            d.due("but one has the other, which stopped", y.even(), 1);
            ViewBroadcast z = Net.of(16);
            Net.take(z, pair[1], pair[0]);
            z.stop(pair[1]);
            d.due("one that stopped has the other", z.even(), 1);
        }
    }

    @Says("Whether of each two LIVE NODES each is in the other's ACTIVE view, if the other is in its: 1, 0.")
    static void p19EvenOfThePassiveViewDoesNotCount(Due d) {
        ViewBroadcast x = Net.sized(2, 5, 4);
        Net.link(x, 0, 1);
        Net.take(x, 1, 2, 3);
        d.due("1 dropped 0", x.how(1, 0), 3);
        Net.must(x, 3, 1, 2);
        Net.must(x, 3, 1, 3);
        d.due("0 has 1, who knows of it alone", x.even(), 0);
        Net.must(x, 2, 1, 0);
        Net.must(x, 4, 1, 0);
        d.due("0 dropped it too, but took 2, who has not", x.even(), 0);
        Net.must(x, 3, 0, 2);
        d.due("each has the other", x.even(), 1);
    }

    @Says("`int reach(int node)`: How many LIVE NODES can be come to from one by ACTIVE views of LIVE ones (with itself). UNKNOWN; STATE: it has stopped.")
    static void p20ReachIsOneTo16(Due d) {
        ViewBroadcast x = Net.of(16);
        d.due("alone", x.reach(15), 1);
        for (int n = 15; n > 0; n--) {
            Net.take(x, n, n - 1);
        }
        d.due("15 to 0, one after the other", x.reach(15), 16);
        d.due("from the middle", x.reach(7), 8);
        d.due("0 has none", x.reach(0), 1);
        ViewBroadcast y = Net.of(16);
        for (int n = 0; n < 15; n++) {
            Net.take(y, n, n + 1);
        }
        d.due("0 to 15, one after the other", y.reach(0), 16);
        d.due("15 has none", y.reach(15), 1);
    }

    @Says("How many LIVE NODES can be come to from one by ACTIVE views of LIVE ones (with itself).")
    static void p20ReachEndsWhereOneStopped(Due d) {
        ViewBroadcast x = Net.of(6);
        for (int n = 0; n < 5; n++) {
            Net.take(x, n, n + 1);
        }
        d.due("0 to 5", x.reach(0), 6);
        x.stop(3);
        d.due("3 stopped", x.reach(0), 3);
        d.due("from 1", x.reach(1), 2);
        d.due("2 has none but 3", x.reach(2), 1);
        d.due("behind it", x.reach(4), 2);
    }

    @Says("How many LIVE NODES can be come to from one by ACTIVE views of LIVE ones (with itself).")
    static void p20ReachNotByPassiveViewsNorTwiceByARing(Due d) {
        ViewBroadcast x = Net.sized(2, 5, 5);
        Net.take(x, 0, 1, 2, 3);
        d.due("0 has 2 and 3, knows of 1", x.reach(0), 3);
        d.due("a triangle", Net.triangle().reach(1), 3);
    }

    @Says("UNKNOWN; STATE: it has stopped.")
    static void p20ReachIsRefused(Due d) {
        ViewBroadcast x = Net.pair();
        for (int n : new int[] {LOW, -1, 2, 16, HIGH}) {
            d.due("reach(" + n + ")", x.reach(n), -1);
        }
        x.stop(1);
        d.due("reach(1)", x.reach(1), -3);
        d.due("reach(0)", x.reach(0), 1);
    }

    // ---- 21 came, 22 spread, 23 told

    @Says("`int came(int kind)`: How many LETTERS of a KIND (1 to 12) came ever; 0: of all. OUTSIDE.")
    static void p21CameOfEachKind(Due d) {
        ViewBroadcast x = Net.triangle();
        x.tale(0);
        x.go(50);
        x.tale(1);
        x.go(50);
        x.mix(0);
        x.go(50);
        x.stop(2);
        d.due("LETTERS 12 have not come yet", x.came(12), 0);
        x.go(50);
        int[] due = {21, 2, 1, 3, 0, 0, 0, 2, 1, 6, 2, 2, 2};
        for (int kind = 0; kind < 13; kind++) {
            d.due("came(" + kind + ")", x.came(kind), due[kind]);
        }
    }

    @Says("How many LETTERS of a KIND (1 to 12) came ever; 0: of all. OUTSIDE.")
    static void p21CameIsRefused(Due d) {
        ViewBroadcast x = Net.pair();
        for (int kind : new int[] {LOW, -1, 13, 14, HIGH}) {
            d.due("came(" + kind + ")", x.came(kind), -2);
        }
        d.due("came(0)", x.came(0), 2);
        d.due("came(1)", x.came(1), 1);
        d.due("came(12)", x.came(12), 0);
    }

    @Says("How many LETTERS of a KIND (1 to 12) came ever; 0: of all.")
    static void p21WhatWentOrIsSpiltDidNotCome(Due d) {
        ViewBroadcast x = Net.of(2);
        for (int i = 0; i < 501; i++) {
            x.join(0, 1);
        }
        x.stop(1);
        x.go(2000);
        d.due("came(0)", x.came(0), 0);
        d.due("came(1)", x.came(1), 0);
    }

    @Says("`int spread(int tale)`: How many LIVE NODES HEARD a TALE. UNKNOWN.")
    static void p22SpreadCountsLiveOnes(Due d) {
        ViewBroadcast x = Net.of(16);
        for (int n = 1; n < 16; n++) {
            Net.take(x, n - 1, n);
            Net.must(x, 3, n - 1, n);
        }
        x.tale(0);
        for (int n = 1; n < 16; n++) {
            d.due("spread(0)", x.spread(0), n);
            Net.must(x, 9, n - 1, n);
        }
        d.due("all", x.spread(0), 16);
        x.stop(15);
        d.due("15 stopped", x.spread(0), 15);
        x.stop(0);
        d.due("0 stopped", x.spread(0), 14);
    }

    @Says("How many LIVE NODES HEARD a TALE. UNKNOWN.")
    static void p22SpreadIsRefused(Due d) {
        ViewBroadcast x = Net.of(1);
        d.due("spread(0) without a TALE", x.spread(0), -1);
        x.tale(0);
        for (int t : new int[] {LOW, -1, 1, 24, HIGH}) {
            d.due("spread(" + t + ")", x.spread(t), -1);
        }
        x.stop(0);
        d.due("spread(0), nobody LIVE", x.spread(0), 0);
    }

    @Says("`int told(int what)`: 0 NODES, 1 LIVE ones, 2 LETTERS in the ROW, 3 SPILT ones, 4 TALES, 5 TIME, 6 COINS, 7 which COIN is next (0 without). OUTSIDE.")
    static void p23ToldOfAll(Due d) {
        ViewBroadcast x = Net.coins(Net.triangle(), 1, 0, 1);
        x.node();
        x.stop(3);
        x.tale(0);
        x.tale(1);
        for (int i = 0; i < 7; i++) {
            x.tick();
        }
        x.mix(0);
        x.mix(0);
        for (int i = 0; i < 497; i++) {
            x.join(0, 1);
        }
        int[] due = {4, 3, 500, 3, 2, 7, 3, 2};
        for (int what = 0; what < 8; what++) {
            d.due("told(" + what + ")", x.told(what), due[what]);
        }
    }

    @Says("7 which COIN is next (0 without). OUTSIDE.")
    static void p23ToldIsRefused(Due d) {
        ViewBroadcast x = new ViewBroadcast();
        for (int what : new int[] {LOW, -1, 8, 9, HIGH}) {
            d.due("told(" + what + ")", x.told(what), -2);
        }
        d.due("told(0)", x.told(0), 0);
        d.due("told(7)", x.told(7), 0);
    }

    // ---- 24 keep, 25 back

    @Says("`int keep(int k)`: All (SIZES, NODES, LETTERS, TALES, TIME, what is counted, which COIN is next; not COINS) is kept at place k (0, 1): 1. UNKNOWN.")
    static void p24KeepAtPlaces0And1(Due d) {
        ViewBroadcast x = Net.of(1);
        for (int k : new int[] {LOW, -1, 2, 3, HIGH}) {
            d.due("keep(" + k + ")", x.keep(k), -1);
        }
        d.due("keep(0)", x.keep(0), 1);
        x.node();
        d.due("keep(1)", x.keep(1), 1);
        x.node();
        d.due("back(0)", x.back(0), 1);
        d.due("back(1)", x.back(1), 2);
        d.due("back(0) again", x.back(0), 1);
        Net.with(x, 5);
        d.due("keep(1) anew", x.keep(1), 1);
        d.due("back(0) as before", x.back(0), 1);
        d.due("back(1) as kept anew", x.back(1), 6);
    }

    @Says("All (SIZES, NODES, LETTERS, TALES, TIME, what is counted, which COIN is next; not COINS) is kept")
    static void p24KeptAreTheSizes(Due d) {
        ViewBroadcast x = Net.walking(3, 2, 2);
        x.sizes(2, 2);
        x.keep(0);
        x.walks(6, 0, 20);
        x.sizes(5, 8);
        Net.with(x, 3);
        d.due("back(0): no NODES", x.back(0), 0);
        Net.take(Net.with(x, 7), 0, 1, 2, 3, 4, 5);
        d.due("A 2, P 2", Net.active(x, 0) + " | " + Net.passive(x, 0), "4 5 | 2 3");
        d.due("LONG 3", Net.letter(x, x.told(2) - 2), "2 0>4 5 3");
        x.back(0);
        d.due("sizes(3, 5), no NODES again", x.sizes(3, 5), 1);
        Net.triangle(x);
        x.node();
        Net.take(x, 0, 3);
        Net.must(x, 2, 0, 1);
        d.due("SHORT is not 3", x.how(1, 3), 0);
        Net.must(x, 2, 1, 2);
        d.due("SHORT 2", x.how(2, 3), 3);
        x.back(0);
        x.sizes(3, 5);
        Net.triangle(x);
        x.tale(0);
        x.go(50);
        x.tale(0);
        Net.must(x, 9, 0, 1);
        Net.must(x, 10, 1, 2);
        x.tick();
        d.due("no CHOICE yet", Net.count(x, 11), 0);
        x.tick();
        d.due("WAIT 2", Net.count(x, 11), 1);
    }

    @Says("All (SIZES, NODES, LETTERS, TALES, TIME, what is counted, which COIN is next; not COINS) is kept")
    static void p24KeptIsTheHourOfWhatIsMissed(Due d) {
        ViewBroadcast x = missing();
        x.tick();
        x.tick();
        x.keep(0);
        for (int i = 0; i < 3; i++) {
            x.tick();
        }
        d.due("1 was asked", x.missed(2, 1), 0);
        x.back(0);
        d.due("1 told, and is not asked yet", x.missed(2, 1), 1);
        x.tick();
        d.due("nor ahead of the hour", x.missed(2, 1), 1);
        x.tick();
        d.due("but at TIME and WAIT, 4", x.missed(2, 1), 0);
    }

    @Says("All (SIZES, NODES, LETTERS, TALES, TIME, what is counted, which COIN is next; not COINS) is kept")
    static void p24KeptIsWhatANodeAsksAndAsked(Due d) {
        ViewBroadcast x = mending(Net.of(16));
        d.due("0 ASKS, ASKED", x.about(0, 1) * 100 + x.about(0, 2), 108);
        x.keep(1);
        Net.must(x, 5, 0, 1);
        Net.must(x, 3, 1, 0);
        d.due("0 ASKS none, forgot those ASKED", x.about(0, 1) * 100 + x.about(0, 2), -600);
        x.back(1);
        d.due("0 ASKS, ASKED as kept", x.about(0, 1) * 100 + x.about(0, 2), 108);
        Net.must(x, 5, 0, 1);
        d.due("the LETTER is there again", Net.has(x, 3, 1, 0) ? 1 : 0, 1);
    }

    /** 0: [9] | [1 2 3], MENDING: 3, which is full, REFUSED, 1 is ASKED. */
    private static ViewBroadcast mending(ViewBroadcast x) {
        Net.take(x, 9, 3, 1, 2, 0);
        x.coin(2);
        x.mix(9);
        Net.must(x, 3, 9, 0);
        while (!Net.has(x, 8, 0, 9)) {
            Net.must(x, 7, 9, 0);
        }
        Net.take(x, 3, 4, 5, 6);
        x.coin(0);
        Net.take(x, 0, 7);
        x.stop(7);
        Net.must(x, 12, 7, 0);
        Net.must(x, 5, 0, 3);
        Net.must(x, 6, 3, 0);
        return x;
    }

    /** A net with something of all: LIVE and stopped ones, LAZY ones, some ASKED, TALES HEARD and MISSED, LISTS. */
    private static ViewBroadcast rich() {
        ViewBroadcast x = Net.walking(3, 1, 3);
        x.sizes(3, 4);
        Net.coins(x, 5, 2, 9, 4, 0, 7, 1);
        Net.with(x, 12);
        for (int n = 1; n < 12; n++) {
            x.join(n, n * 5 % n);
            x.go(4);
        }
        x.go(300);
        for (int t = 0; t < 9; t++) {
            x.tale(t);
            x.go(t * 3);
        }
        x.stop(4);
        x.go(6);
        x.mix(2);
        x.mix(7);
        x.tick();
        x.tick();
        return x;
    }

    private static void disturb(ViewBroadcast x) {
        for (int i = 0; i < 12; i++) {
            x.tick();
            x.node();
            x.tale(i);
            x.join(i, (i + 3) % 12);
            x.mix(i);
            x.go(30);
        }
        x.stop(1);
        x.stop(9);
        for (int i = 0; i < 501; i++) {
            x.join(2, 3);
        }
    }

    private static String playedOn(ViewBroadcast x) {
        StringBuilder s = new StringBuilder();
        for (int i = 0; i < 12; i++) {
            x.tick();
            x.join(i, (i + 5) % 11);
            x.go(i);
            x.mix(i);
            s.append(Net.picture(x)).append('\n');
        }
        return s.toString();
    }

    @Says("`int back(int k)`: It is as it was kept there: how many NODES.")
    static void p25BackIsAsItWasKept(Due d) {
        ViewBroadcast x = rich();
        String before = Net.picture(x), then = playedOn(rich());
        d.due("keep(1)", x.keep(1), 1);
        d.due("keep changes nothing", Net.picture(x), before);
        disturb(x);
        d.due("it is another one", Net.picture(x).equals(before) ? 1 : 0, 0);
        d.due("back(1)", x.back(1), 12);
        d.due("all that can be read", Net.picture(x), before);
        d.due("all that shows itself later", playedOn(x), then);
        d.due("back(1) again", x.back(1), 12);
        d.due("what is kept is not changed by what came since", Net.picture(x), before);
        d.due("all that shows itself later", playedOn(x), then);
    }

    @Says("It is as it was kept there: how many NODES.")
    static void p25BackToMoreAndToFewerNodes(Due d) {
        ViewBroadcast x = new ViewBroadcast();
        x.keep(0);
        Net.with(x, 16);
        Net.take(x, 15, 14);
        x.keep(1);
        d.due("back(0)", x.back(0), 0);
        d.due("about(0, 0)", x.about(0, 0), -1);
        d.due("LETTERS", x.told(2), 0);
        d.due("back(1)", x.back(1), 16);
        d.due("15 has", Net.active(x, 15), "14");
        d.due("ROW", Net.row(x), "3 15>14 0 0");
    }

    @Says("It is as it was kept there: how many NODES.")
    static void p25BackToAFullAndToAnEmptyRow(Due d) {
        ViewBroadcast x = Net.of(2);
        x.keep(0);
        for (int i = 0; i < 503; i++) {
            x.join(i % 2, 1 - i % 2);
        }
        x.keep(1);
        x.go(2000);
        d.due("back(1)", x.back(1), 2);
        d.due("LETTERS", x.told(2), 500);
        d.due("SPILT", x.told(3), 3);
        d.due("the first", Net.letter(x, 0), "1 0>1 0 0");
        d.due("the last", Net.letter(x, 499), "1 1>0 0 0");
        d.due("one more", x.join(0, 1), 500);
        d.due("SPILT", x.told(3), 4);
        x.back(0);
        d.due("LETTERS", x.told(2), 0);
        d.due("SPILT", x.told(3), 0);
        d.due("came(0)", x.came(0), 0);
    }

    @Says("UNKNOWN: also nothing is.")
    static void p25BackOfNothingKeptIsUnknown(Due d) {
        ViewBroadcast x = Net.of(3);
        for (int k : new int[] {LOW, -1, 0, 1, 2, HIGH}) {
            d.due("back(" + k + ")", x.back(k), -1);
        }
        d.due("NODES", x.told(0), 3);
        x.keep(1);
        d.due("back(0), but 1 is kept", x.back(0), -1);
        d.due("back(1)", x.back(1), 3);
        ViewBroadcast y = Net.of(3);
        y.keep(0);
        d.due("back(1), but 0 is kept", y.back(1), -1);
    }

    @Says("(COINS told since stay.)")
    static void p25CoinsToldSinceStay(Due d) {
        ViewBroadcast x = Net.coins(Net.triangle(), 0, 0);
        x.mix(0);
        x.keep(0);
        x.coin(1);
        x.mix(0);
        x.mix(0);
        d.due("the first is next", x.told(7), 0);
        x.back(0);
        d.due("COINS", x.told(6), 3);
        d.due("the second is next", x.told(7), 1);
        d.due("COIN 0", x.mix(0), 1);
        d.due("COIN 1, told since", x.mix(0), 2);
        d.due("COIN 0", x.mix(0), 1);
    }

    @Says("(COINS told since stay.)")
    static void p25CoinsStayFullAfterBack(Due d) {
        ViewBroadcast x = new ViewBroadcast();
        x.keep(0);
        for (int i = 0; i < 64; i++) {
            x.coin(i);
        }
        x.back(0);
        d.due("COINS", x.told(6), 64);
        d.due("coin(1)", x.coin(1), -4);
    }

    @Says("It is as it was kept there: how many NODES.")
    static void p25ANodeThatIsMadeAnewAfterBackIsAlone(Due d) {
        ViewBroadcast x = lazy();
        x.keep(0);
        x.node();
        Net.link(x, 0, 3);
        x.tale(3);
        x.go(50);
        x.stop(3);
        x.go(50);
        x.back(0);
        d.due("node()", x.node(), 3);
        d.due("ACTIVE, PASSIVE", Net.active(x, 3) + " | " + Net.passive(x, 3), " | ");
        int[] due = {1, -6, 0, 0, 0, 0};
        for (int what = 0; what < 6; what++) {
            d.due("about(3, " + what + ")", x.about(3, what), due[what]);
        }
        x.tale(0);
        d.due("heard(3, 1)", x.heard(3, 1), -6);
    }

    @Says("It is as it was kept there: how many NODES.")
    static void p25NodesMadeAnewAfterBackHaveNothingOfThoseBefore(Due d) {
        ViewBroadcast x = new ViewBroadcast();
        String fresh = Net.picture(Net.of(16));
        x.keep(0);
        Net.with(x, 16);
        x.keep(1);
        for (int scene = 0; scene < 2; scene++) {
            x.back(0);
            Net.with(x, 16);
            if (scene == 0) {
                mending(x);
                d.due("0 ASKS, ASKED", x.about(0, 1) * 100 + x.about(0, 2), 108);
            } else {
                missingTale0(x);
                d.due("2 MISSES", x.about(2, 4), 1);
            }
            x.back(0);
            Net.with(x, 16);
            d.due("as fresh ones", x.differs(1), -6);
            d.due("as fresh ones, but for COINS", withoutCoins(x), fresh.substring(fresh.indexOf(" even")));
            x.tale(15);
            d.due("0 does not MISS it", x.missed(0, 0) + x.about(0, 4), 0);
        }
    }

    private static String withoutCoins(ViewBroadcast x) {
        String all = Net.picture(x);
        return all.substring(all.indexOf(" even"));
    }

    /** 0 to 3 have each other; 2 MISSES TALE 0, of which 1 told, since TALE 1 made them LAZY ahead of it. */
    private static void missingTale0(ViewBroadcast x) {
        for (int n = 1; n < 4; n++) {
            x.join(n, 0);
            x.go(50);
        }
        x.tale(0);
        x.tale(3);
        for (int[] pair : new int[][] {{3, 1}, {3, 2}, {1, 2}, {2, 1}, {0, 1}}) {
            Net.must(x, 9, pair[0], pair[1]);
        }
        Net.must(x, 11, 1, 2);
        Net.must(x, 10, 1, 2);
    }

    @Says("4 how many it MISSES")
    static void p17AboutTale0Missed(Due d) {
        ViewBroadcast x = Net.of(4);
        missingTale0(x);
        d.due("2 MISSES", x.about(2, 4), 1);
        d.due("told of TALE 0", x.missed(2, 0), 1);
        x.stop(1);
        Net.must(x, 12, 1, 2);
        d.due("told of TALE 0, 1 stopped", x.missed(2, 0), 0);
    }

    // ---- 26 differs

    @Says("`int differs(int k)`: The first NODE whose views (in order, EAGER or LAZY), or what it HEARD, are other ones there")
    static void p26DiffersInTheActiveView(Due d) {
        ViewBroadcast x = Net.of(16);
        x.keep(0);
        d.due("the same", x.differs(0), -6);
        Net.take(x, 15, 14);
        d.due("the last NODE has one more", x.differs(0), 15);
        x.keep(1);
        Net.take(x, 7, 2);
        d.due("the first of two", x.differs(0), 7);
        d.due("against the other place", x.differs(1), 7);
        x.back(0);
        d.due("the last NODE has one less", x.differs(1), 15);
    }

    @Says("The first NODE whose views (in order, EAGER or LAZY), or what it HEARD, are other ones there")
    static void p26DiffersInTheOrderOfTheActiveView(Due d) {
        ViewBroadcast x = Net.of(3);
        x.keep(0);
        Net.take(x, 0, 1, 2);
        x.keep(1);
        x.back(0);
        Net.take(x, 0, 2, 1);
        d.due("in another order", x.differs(1), 0);
        x.back(0);
        Net.take(x, 0, 1, 2);
        d.due("in the same order", x.differs(1), -6);
    }

    @Says("The first NODE whose views (in order, EAGER or LAZY), or what it HEARD, are other ones there")
    static void p26DiffersInTheFirstOfAView(Due d) {
        for (int[] one : new int[][] {{1, 2}, {2, 1}}) {
            ViewBroadcast x = Net.sized(2, 5, 6);
            x.keep(0);
            Net.take(x, 0, one[0], 3);
            x.keep(1);
            x.back(0);
            Net.take(x, 0, one[1], 3);
            d.due("ACTIVE, the first", x.differs(1), 0);
            Net.take(x, 0, 4, 5);
            x.keep(1);
            x.back(0);
            Net.take(x, 0, one[0], 3, 4, 5);
            d.due("PASSIVE, the first", x.differs(1), 0);
        }
    }

    @Says("The first NODE whose views (in order, EAGER or LAZY), or what it HEARD, are other ones there")
    static void p26DiffersNotInOneThatWasLazyBeforeItLeft(Due d) {
        ViewBroadcast x = Net.with(Net.triangle(), 2);
        x.coin(1);
        x.tale(0);
        Net.must(x, 9, 0, 1);
        Net.must(x, 9, 0, 2);
        x.keep(0);
        Net.must(x, 9, 2, 1);
        d.due("LAZY", x.how(1, 2), 2);
        Net.take(x, 1, 3, 4);
        d.due("1 has", Net.active(x, 1) + " | " + Net.passive(x, 1), "0 3 4 | 2");
        x.keep(1);
        x.back(0);
        d.due("EAGER", x.how(1, 2), 1);
        Net.take(x, 1, 3, 4);
        d.due("1 has", Net.active(x, 1) + " | " + Net.passive(x, 1), "0 3 4 | 2");
        d.due("the same", x.differs(1), -6);
    }

    @Says("The first NODE whose views (in order, EAGER or LAZY), or what it HEARD, are other ones there")
    static void p26DiffersInThePassiveViewAndItsOrder(Due d) {
        ViewBroadcast x = Net.sized(2, 5, 6);
        x.keep(0);
        Net.take(x, 0, 1, 2, 3, 4);
        x.keep(1);
        d.due("1 2 are PASSIVE", Net.active(x, 0) + " | " + Net.passive(x, 0), "3 4 | 1 2");
        x.back(0);
        Net.take(x, 0, 2, 1, 3, 4);
        d.due("2 1 are PASSIVE", Net.active(x, 0) + " | " + Net.passive(x, 0), "3 4 | 2 1");
        d.due("in another order", x.differs(1), 0);
        x.back(0);
        Net.take(x, 0, 1, 3, 4);
        d.due("one less is PASSIVE", x.differs(1), 0);
        x.back(0);
        Net.take(x, 0, 1, 2, 3, 4);
        d.due("the same", x.differs(1), -6);
    }

    @Says("The first NODE whose views (in order, EAGER or LAZY), or what it HEARD, are other ones there")
    static void p26DiffersInEagerOrLazy(Due d) {
        ViewBroadcast x = Net.triangle();
        x.tale(0);
        Net.must(x, 9, 0, 1);
        Net.must(x, 9, 0, 2);
        x.keep(0);
        Net.must(x, 9, 2, 1);
        d.due("2 is LAZY to 1 now", x.differs(0), 1);
        x.keep(1);
        x.back(0);
        d.due("2 is EAGER to 1 again", x.differs(1), 1);
    }

    @Says("The first NODE whose views (in order, EAGER or LAZY), or what it HEARD, are other ones there")
    static void p26DiffersInWhatIsHeard(Due d) {
        ViewBroadcast x = Net.of(16);
        for (int t = 0; t < 23; t++) {
            x.tale(0);
        }
        x.keep(0);
        x.tale(15);
        d.due("15 HEARD the last TALE", x.differs(0), 15);
        x.keep(1);
        x.back(0);
        d.due("15 HEARD it not", x.differs(1), 15);
        x.tale(14);
        d.due("14 HEARD it instead", x.differs(1), 14);
    }

    @Says("The first NODE whose views (in order, EAGER or LAZY), or what it HEARD, are other ones there")
    static void p26DiffersInTheHopsOfWhatIsHeard(Due d) {
        ViewBroadcast x = Net.triangle();
        x.tale(0);
        x.keep(0);
        Net.must(x, 9, 0, 1);
        d.due("1 HEARD with", x.heard(1, 0), 1);
        x.keep(1);
        x.back(0);
        Net.must(x, 9, 0, 2);
        Net.must(x, 9, 2, 1);
        d.due("1 HEARD with", x.heard(1, 0), 2);
        d.due("1 has", Net.active(x, 1), "0 2");
        d.due("1 is another one", x.differs(1), 1);
    }

    @Says("The first NODE whose views (in order, EAGER or LAZY), or what it HEARD, are other ones there")
    static void p26DiffersInNothingElse(Due d) {
        ViewBroadcast x = missing();
        x.node();
        x.keep(0);
        x.coin(1);
        x.tick();
        x.mix(0);
        x.join(3, 0);
        x.stop(3);
        d.due("TIME, COINS, LETTERS, who is LIVE", x.differs(0), -6);
        Net.must(x, 9, 0, 2);
        d.due("2 HEARD what it MISSED", x.differs(0), 2);
        ViewBroadcast y = lazy();
        y.tale(0);
        Net.must(y, 9, 0, 1);
        y.keep(0);
        Net.must(y, 10, 1, 2);
        d.due("what is MISSED", y.differs(0), -6);
    }

    @Says("(one that is but here or there, too); NONE.")
    static void p26DiffersInOneThatIsButHereOrThere(Due d) {
        ViewBroadcast x = new ViewBroadcast();
        x.keep(0);
        d.due("no NODES in both", x.differs(0), -6);
        x.node();
        d.due("the first is but here", x.differs(0), 0);
        Net.with(x, 14);
        x.keep(1);
        x.node();
        d.due("the last is but here", x.differs(1), 15);
        x.keep(0);
        x.back(1);
        d.due("the last is but there", x.differs(0), 15);
        Net.take(x, 3, 4);
        d.due("another one ahead of it", x.differs(0), 3);
    }

    @Says("UNKNOWN, likewise.")
    static void p26DiffersIsRefused(Due d) {
        ViewBroadcast x = Net.of(1);
        for (int k : new int[] {LOW, -1, 0, 1, 2, HIGH}) {
            d.due("differs(" + k + ")", x.differs(k), -1);
        }
        x.keep(1);
        d.due("differs(0), but 1 is kept", x.differs(0), -1);
        d.due("differs(1)", x.differs(1), -6);
        d.due("differs(2)", x.differs(2), -1);
    }

    @Says("The first NODE whose views (in order, EAGER or LAZY), or what it HEARD, are other ones there")
    static void p26DiffersChangesNothing(Due d) {
        ViewBroadcast x = rich();
        x.keep(0);
        disturb(x);
        String before = Net.picture(x);
        d.due("another one", x.differs(0) >= 0 ? 1 : 0, 1);
        d.due("it is as it was", Net.picture(x), before);
    }
}
