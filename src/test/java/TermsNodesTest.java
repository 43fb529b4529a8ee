/** The document's 'Terms', part 1: NODES with SIZES, COINS, DRAWING, LETTERS in their ROW, and stopping. */
public final class TermsNodesTest {
    private static final int LOW = Integer.MIN_VALUE, HIGH = Integer.MAX_VALUE;

    public static void main(String[] args) {
        Sentences.run(TermsNodesTest.class);
    }

    // ---- NODES

    @Says("NODES, 16 at most, numbered from 0 on")
    static void nodes16AtMostNumberedFrom0(Due d) {
        ViewBroadcast x = new ViewBroadcast();
        d.due("about(0, 0) ahead of the first", x.about(0, 0), -1);
        for (int n = 0; n < 16; n++) {
            d.due("node(), the " + (n + 1) + "th", x.node(), n);
        }
        d.due("node(), the 17th", x.node(), -4);
        d.due("told(0)", x.told(0), 16);
        d.due("about(15, 0)", x.about(15, 0), 1);
        d.due("about(16, 0)", x.about(16, 0), -1);
        d.due("about(-1, 0)", x.about(-1, 0), -1);
        d.due("join(15, 0)", x.join(15, 0), 1);
        d.due("join(0, 15)", x.join(0, 15), 2);
    }

    @Says("LIVE until they stop")
    static void nodesAreLiveUntilTheyStop(Due d) {
        ViewBroadcast x = Net.of(16);
        for (int n : new int[] {0, 15}) {
            d.due("LIVE " + n, x.about(n, 0), 1);
            x.stop(n);
            d.due("stopped " + n, x.about(n, 0), 0);
        }
        d.due("LIVE 1", x.about(1, 0), 1);
        d.due("LIVE ones", x.told(1), 14);
    }

    @Says("Each has, in the order in which they came: an ACTIVE view, up to A NODES")
    static void activeViewHasUpToANodesInOrder(Due d) {
        String[] full = {"1 2", "1 2 3", "1 2 3 4", "1 2 3 4 5"};
        String[] more = {"2 9", "2 3 9", "2 3 4 9", "2 3 4 5 9"};
        for (int a = 2; a <= 5; a++) {
            ViewBroadcast x = Net.sized(a, 5, 10);
            d.due("ACTIVE, empty", x.view(0, 0, -1), 0);
            for (int n = 1; n <= a; n++) {
                Net.take(x, 0, n);
                d.due("ACTIVE of A " + a, x.view(0, 0, -1), n);
            }
            d.due("all of A " + a, Net.active(x, 0), full[a - 2]);
            d.due("nobody was dropped", x.view(0, 1, -1), 0);
            Net.take(x, 0, 9);
            d.due("one more than A " + a, Net.active(x, 0), more[a - 2]);
            d.due("the first was dropped", Net.passive(x, 0), "1");
        }
    }

    @Says("a PASSIVE view, up to P NODES")
    static void passiveViewHasUpToPNodesInOrder(Due d) {
        String[] full = {"1 2", "1 2 3", "1 2 3 4", "1 2 3 4 5", "1 2 3 4 5 6", "1 2 3 4 5 6 7", "1 2 3 4 5 6 7 8"};
        String[] more = {"2 3", "2 3 4", "2 3 4 5", "2 3 4 5 6", "2 3 4 5 6 7", "2 3 4 5 6 7 8", "2 3 4 5 6 7 8 9"};
        for (int p = 2; p <= 8; p++) {
            ViewBroadcast x = Net.sized(2, p, 13);
            d.due("PASSIVE, empty", x.view(0, 1, -1), 0);
            Net.take(x, 0, 1, 2);
            for (int n = 1; n <= p; n++) {
                Net.take(x, 0, n + 2);
                d.due("PASSIVE of P " + p, x.view(0, 1, -1), n);
            }
            d.due("all of P " + p, Net.passive(x, 0), full[p - 2]);
            Net.take(x, 0, p + 3);
            d.due("one more than P " + p, Net.passive(x, 0), more[p - 2]);
        }
    }

    @Says("each of them EAGER or LAZY")
    static void eachActiveOneIsEagerOrLazy(Due d) {
        ViewBroadcast x = Net.triangle();
        d.due("EAGER both", Net.active(x, 2), "0 1");
        x.tale(0);
        x.go(3);
        d.due("one is LAZY to 2", Net.active(x, 2), "0 1~");
        d.due("2 is EAGER to it still", Net.active(x, 1), "0 2");
    }

    @Says({"what it HEARD, what it MISSES (below)", "the one it ASKS, or none, those it ASKED."})
    static void aNewNodeHeardMissesAndAsksNothing(Due d) {
        ViewBroadcast x = Net.of(1);
        int[] due = {1, -6, 0, 0, 0, 0};
        for (int what = 0; what < 6; what++) {
            d.due("about(0, " + what + ")", x.about(0, what), due[what]);
        }
    }

    // ---- SIZES

    @Says("SIZES: A (2 to 5; 3 at first)")
    static void aIs2To5(Due d) {
        for (int a : new int[] {LOW, -1, 0, 1, 6, 7, HIGH}) {
            d.due("sizes(" + a + ", 5)", new ViewBroadcast().sizes(a, 5), -2);
        }
        for (int a = 2; a <= 5; a++) {
            d.due("sizes(" + a + ", 5)", new ViewBroadcast().sizes(a, 5), 1);
        }
    }

    @Says("SIZES: A (2 to 5; 3 at first)")
    static void aIs3AtFirst(Due d) {
        ViewBroadcast x = Net.of(5);
        Net.take(x, 0, 1, 2, 3);
        d.due("3 find place", Net.active(x, 0), "1 2 3");
        Net.take(x, 0, 4);
        d.due("a 4th does not", Net.active(x, 0), "2 3 4");
    }

    @Says("P (2 to 8; 5)")
    static void pIs2To8(Due d) {
        for (int p : new int[] {LOW, -1, 0, 1, 9, 10, HIGH}) {
            d.due("sizes(3, " + p + ")", new ViewBroadcast().sizes(3, p), -2);
        }
        for (int p = 2; p <= 8; p++) {
            d.due("sizes(3, " + p + ")", new ViewBroadcast().sizes(3, p), 1);
        }
    }

    @Says("P (2 to 8; 5)")
    static void pIs5AtFirst(Due d) {
        ViewBroadcast x = Net.of(10);
        Net.take(x, 0, 1, 2, 3, 4, 5, 6, 7, 8);
        d.due("5 find place", Net.passive(x, 0), "1 2 3 4 5");
        Net.take(x, 0, 9);
        d.due("a 6th does not", Net.passive(x, 0), "2 3 4 5 6");
    }

    @Says("LONG, the steps of a walk (1 to 6; 4)")
    static void longIs1To6(Due d) {
        for (int l : new int[] {LOW, -1, 0, 7, 8, HIGH}) {
            d.due("walks(" + l + ", 0, 4)", new ViewBroadcast().walks(l, 0, 4), -2);
        }
        for (int l = 1; l <= 6; l++) {
            ViewBroadcast x = new ViewBroadcast();
            d.due("walks(" + l + ", 0, 4)", x.walks(l, 0, 4), 1);
            Net.take(Net.with(x, 3), 0, 1, 2);
            d.due("steps of LONG " + l, Net.row(x, 1), "2 0>1 2 " + l + ", 3 0>2 0 0");
        }
    }

    @Says("LONG, the steps of a walk (1 to 6; 4)")
    static void longIs4AtFirst(Due d) {
        ViewBroadcast x = Net.of(3);
        Net.take(x, 0, 1, 2);
        d.due("a WALK", Net.letter(x, 1), "2 0>1 2 4");
    }

    @Says("SHORT (0 to LONG; 2)")
    static void shortIs0ToLong(Due d) {
        for (int l = 1; l <= 6; l++) {
            for (int s = 0; s <= l; s++) {
                d.due("walks(" + l + ", " + s + ", 4)", new ViewBroadcast().walks(l, s, 4), 1);
            }
            for (int s : new int[] {LOW, -1, l + 1, HIGH}) {
                d.due("walks(" + l + ", " + s + ", 4)", new ViewBroadcast().walks(l, s, 4), -2);
            }
        }
    }

    /** With how many steps a WALK, that begins with LONG 6, is NOTED; it goes on between 1 and 2. */
    private static int stepsWhereNoted(ViewBroadcast x) {
        Net.triangle(x);
        Net.with(x, 1);
        Net.take(x, 0, 3);
        int steps = Net.has(x, 2, 0, 1) ? x.letter(Net.find(x, 2, 0, 1), 4) : 0;
        Net.must(x, 2, 0, 1);
        if (x.how(1, 3) == 3) {
            return steps;
        }
        Net.must(x, 2, 1, 2);
        if (x.how(2, 3) == 3) {
            return steps - 1;
        }
        Net.must(x, 2, 2, 0);
        return x.how(0, 3) == 3 ? steps - 2 : -1;
    }

    @Says("SHORT (0 to LONG; 2)")
    static void shortIsWhereAWalkIsNoted(Due d) {
        d.due("SHORT 6 of LONG 6", stepsWhereNoted(Net.walking(6, 6, 4)), 6);
        d.due("SHORT 5 of LONG 6", stepsWhereNoted(Net.walking(6, 5, 4)), 5);
        d.due("SHORT 1 of LONG 2", stepsWhereNoted(Net.walking(2, 1, 4)), 1);
        d.due("SHORT 0 of LONG 2: nowhere", stepsWhereNoted(Net.walking(2, 0, 4)), -1);
    }

    @Says("SHORT (0 to LONG; 2)")
    static void shortIs2AtFirst(Due d) {
        ViewBroadcast x = Net.sized(5, 5, 6);
        Net.link(x, 0, 1);
        Net.link(x, 1, 2);
        Net.link(x, 2, 3);
        Net.take(x, 3, 4);
        Net.take(x, 0, 5);
        for (int n = 0; n < 3; n++) {
            d.due("not NOTED by " + n, x.how(n, 5) == 3 ? 1 : 0, 0);
            int i = Net.count(x, 2) > 0 ? lastWalk(x, n, n + 1, 5) : -1;
            d.due("WALK from " + n, x.letter(i, 4), 4 - n);
            comeAll(x, n, n + 1);
        }
        d.due("not NOTED by 1, with 4 steps", x.how(1, 5), 0);
        d.due("not NOTED by 2, with 3 steps", x.how(2, 5), 0);
        d.due("NOTED by 3, with 2 steps", x.how(3, 5), 3);
    }

    private static int lastWalk(ViewBroadcast x, int from, int to, int joiner) {
        for (int i = x.told(2) - 1; i >= 0; i--) {
            if (x.letter(i, 0) == from && x.letter(i, 1) == to && x.letter(i, 2) == 2 && x.letter(i, 3) == joiner) {
                return i;
            }
        }
        return -1;
    }

    private static void comeAll(ViewBroadcast x, int from, int to) {
        for (int i = 0; i < x.told(2); i++) {
            if (x.letter(i, 0) == from && x.letter(i, 1) == to) {
                x.deliver(i);
                i--;
            }
        }
    }

    @Says("WAIT (1 to 20; 4): ticks.")
    static void waitIs1To20(Due d) {
        for (int w : new int[] {LOW, -1, 0, 21, 22, HIGH}) {
            d.due("walks(4, 2, " + w + ")", new ViewBroadcast().walks(4, 2, w), -2);
        }
        for (int w = 1; w <= 20; w++) {
            d.due("walks(4, 2, " + w + ")", new ViewBroadcast().walks(4, 2, w), 1);
        }
    }

    @Says("WAIT (1 to 20; 4): ticks.")
    static void waitIsCountedInTicks(Due d) {
        for (int w : new int[] {1, 2, 3, 19, 20}) {
            d.due("TICKS of WAIT " + w, ticksUntilChoice(Net.walking(4, 2, w)), w);
        }
        d.due("TICKS at first", ticksUntilChoice(new ViewBroadcast()), 4);
    }

    private static int ticksUntilChoice(ViewBroadcast x) {
        Net.triangle(x);
        x.tale(0);
        x.go(50);
        x.tale(0);
        Net.must(x, 9, 0, 1);
        Net.must(x, 10, 1, 2);
        int ticks = 0;
        while (Net.count(x, 11) == 0 && ticks < 30) {
            x.tick();
            ticks++;
        }
        return ticks;
    }

    // ---- COINS and DRAWING

    @Says("COINS: up to 64 ints from 0 on")
    static void coinsAreFrom0On(Due d) {
        ViewBroadcast x = new ViewBroadcast();
        d.due("coin(-1)", x.coin(-1), -2);
        d.due("coin(LOW)", x.coin(LOW), -2);
        d.due("coin(0)", x.coin(0), 1);
        d.due("coin(HIGH)", x.coin(HIGH), 2);
        d.due("told(6)", x.told(6), 2);
    }

    @Says("COINS: up to 64 ints from 0 on")
    static void coinsAreUpTo64(Due d) {
        ViewBroadcast x = new ViewBroadcast();
        for (int i = 1; i <= 64; i++) {
            d.due("coin, the " + i + "th", x.coin(7), i);
        }
        d.due("coin, the 65th", x.coin(7), -4);
        d.due("told(6)", x.told(6), 64);
        d.due("told(7)", x.told(7), 0);
    }

    /** NODE 0 with an ACTIVE view of 1 and 2 and nothing else: each mix(0) takes one COIN. */
    private static ViewBroadcast drawing(int... coins) {
        ViewBroadcast x = Net.sized(2, 5, 3);
        Net.coins(x, coins);
        Net.take(x, 0, 1, 2);
        return x;
    }

    @Says("one behind the other is taken, behind the last one the first anew.")
    static void coinsAreTakenOneBehindTheOther(Due d) {
        ViewBroadcast x = drawing(1, 0, 1, 1, 0);
        int[] due = {2, 1, 2, 2, 1, 2, 1, 2, 2, 1, 2};
        for (int i = 0; i < due.length; i++) {
            d.due("told(7) ahead of COIN " + i, x.told(7), i % 5);
            d.due("mix(0), " + i, x.mix(0), due[i]);
        }
    }

    @Says("behind the last one the first anew.")
    static void coinsBeginAnewBehindTheLastOf64(Due d) {
        ViewBroadcast x = drawing();
        for (int i = 0; i < 64; i++) {
            x.coin(i == 0 || i == 63 ? 1 : 0);
        }
        for (int i = 0; i < 130; i++) {
            d.due("told(7), " + i, x.told(7), i % 64);
            d.due("mix(0), " + i, x.mix(0), i % 64 == 0 || i % 64 == 63 ? 2 : 1);
        }
    }

    @Says("behind the last one the first anew.")
    static void aSingleCoinIsTakenAgainAndAgain(Due d) {
        ViewBroadcast x = drawing(1);
        for (int i = 0; i < 3; i++) {
            d.due("told(7)", x.told(7), 0);
            d.due("mix(0)", x.mix(0), 2);
        }
    }

    @Says("one behind the other is taken, behind the last one the first anew.")
    static void aCoinToldLaterIsTakenInItsTurn(Due d) {
        ViewBroadcast x = drawing(1, 0);
        d.due("the first", x.mix(0), 2);
        x.coin(3);
        d.due("the second is next still", x.told(7), 1);
        d.due("the second", x.mix(0), 1);
        d.due("then the one told since", x.told(7), 2);
        d.due("the third", x.mix(0), 2);
        d.due("then the first anew", x.told(7), 0);
    }

    @Says("To DRAW one of n in order: of 0 none")
    static void drawOf0IsNoneWithoutACoin(Due d) {
        ViewBroadcast x = Net.coins(Net.of(1), 1, 1);
        d.due("mix(0), none linked", x.mix(0), -5);
        d.due("told(7)", x.told(7), 0);
        d.due("no LETTER", x.told(2), 0);
    }

    @Says("of 1 that, without a COIN")
    static void drawOf1IsThatWithoutACoin(Due d) {
        ViewBroadcast x = Net.coins(Net.of(2), 1, 1);
        Net.take(x, 0, 1);
        d.due("mix(0), one linked", x.mix(0), 1);
        d.due("told(7)", x.told(7), 0);
        Net.with(x, 1);
        Net.take(x, 0, 2);
        d.due("mix(0), two linked", x.mix(0), 2);
        d.due("told(7)", x.told(7), 1);
    }

    @Says("of more the one numbered by what the next COIN leaves by n")
    static void drawOfMoreIsWhatTheCoinLeaves(Due d) {
        for (int n = 2; n <= 5; n++) {
            for (int coin : new int[] {0, 1, n - 1, n, n + 1, 2 * n - 1, 59, HIGH - 1, HIGH}) {
                ViewBroadcast x = Net.sized(5, 5, 6);
                x.coin(coin);
                for (int joiner = 1; joiner <= n; joiner++) {
                    Net.take(x, 0, joiner);
                }
                d.due("COIN " + coin + " of " + n, x.mix(0), 1 + coin % n);
            }
        }
    }

    @Says("(without COINS: the first).")
    static void drawWithoutCoinsIsTheFirst(Due d) {
        for (int n = 2; n <= 5; n++) {
            ViewBroadcast x = Net.sized(5, 5, 6);
            for (int joiner = n; joiner >= 1; joiner--) {
                Net.take(x, 0, joiner);
            }
            d.due("of " + n, x.mix(0), n);
            d.due("told(7)", x.told(7), 0);
        }
    }

    // ---- LETTERS

    /** Two NODES and so many LETTERS 1 from 0 to 1 in the ROW. */
    private static ViewBroadcast filled(ViewBroadcast x, int letters) {
        for (int i = 0; i < letters; i++) {
            x.join(0, 1);
        }
        return x;
    }

    @Says("LETTERS are in a ROW, 500 at most (one more is not sent: SPILT).")
    static void rowHas500AtMost(Due d) {
        ViewBroadcast x = filled(Net.of(2), 498);
        d.due("the 499th", x.join(0, 1), 499);
        d.due("the 500th", x.join(1, 0), 500);
        d.due("SPILT", x.told(3), 0);
        d.due("one more", x.join(0, 1), 500);
        d.due("SPILT", x.told(3), 1);
        d.due("one more", x.join(1, 0), 500);
        d.due("SPILT", x.told(3), 2);
        d.due("LETTERS", x.told(2), 500);
        d.due("the last one", Net.letter(x, 499), "1 1>0 0 0");
        d.due("none behind it", x.letter(500, 0), -1);
    }

    @Says("(one more is not sent: SPILT)")
    static void oneThatComesMakesPlaceForOne(Due d) {
        ViewBroadcast x = filled(Net.of(2), 500);
        d.due("go(1)", x.go(1), 1);
        d.due("its answer is sent", Net.letter(x, 499), "3 1>0 0 0");
        d.due("LETTERS", x.told(2), 500);
        d.due("SPILT", x.told(3), 0);
        d.due("the last one comes", x.deliver(499), 3);
        d.due("LETTERS", x.told(2), 499);
    }

    @Says("(one more is not sent: SPILT)")
    static void ofTwoSentWithOnePlaceTheSecondIsSpilt(Due d) {
        ViewBroadcast x = Net.of(3);
        Net.take(x, 0, 1, 2);
        filled(x, 496);
        d.due("LETTERS", x.told(2), 499);
        d.due("tale(0)", x.tale(0), 0);
        d.due("to 1 it is sent", Net.letter(x, 499), "9 0>1 0 1");
        d.due("to 2 it is SPILT", x.told(3), 1);
        d.due("tale(0), none is sent", x.tale(0), 1);
        d.due("SPILT", x.told(3), 3);
        d.due("HEARD all the same", x.heard(0, 1), 0);
    }

    @Says("(one more is not sent: SPILT)")
    static void mixOfAFullRowIsSpiltAndTakesItsCoin(Due d) {
        ViewBroadcast x = Net.of(3);
        Net.take(x, 0, 1, 2);
        filled(x, 497);
        Net.coins(x, 1, 0);
        d.due("LETTERS", x.told(2), 500);
        d.due("mix(0)", x.mix(0), 2);
        d.due("SPILT", x.told(3), 1);
        d.due("LETTERS", x.told(2), 500);
        d.due("told(7)", x.told(7), 1);
    }

    @Says("(one more is not sent: SPILT)")
    static void choiceOfAFullRowIsSpilt(Due d) {
        ViewBroadcast x = Net.walking(4, 2, 1);
        Net.triangle(x);
        x.tale(0);
        x.go(50);
        x.tale(0);
        Net.must(x, 9, 0, 1);
        Net.must(x, 10, 1, 2);
        filled(x, 499);
        d.due("LETTERS", x.told(2), 500);
        d.due("who told", x.missed(2, 1), 1);
        x.tick();
        d.due("SPILT", x.told(3), 1);
        d.due("it goes all the same", x.missed(2, 1), 0);
        d.due("it is EAGER all the same", x.how(2, 1), 1);
    }

    @Says({"(one more is not sent: SPILT)", "from it, to each LIVE NODE that has it in its ACTIVE view"})
    static void stopOfAFullRowSpills(Due d) {
        ViewBroadcast x = Net.of(4);
        Net.link(x, 0, 1);
        Net.link(x, 2, 3);
        filled(x, 500);
        d.due("LETTERS", x.told(2), 500);
        d.due("stop(2): none to it", x.stop(2), 0);
        d.due("its LETTER 12 is SPILT", x.told(3), 1);
        d.due("LETTERS", x.told(2), 500);
        d.due("stop(1): 500 to it", x.stop(1), 500);
        d.due("its LETTER 12 is sent", Net.row(x), "12 1>0 0 0");
        d.due("SPILT", x.told(3), 1);
    }

    @Says({"(one more is not sent: SPILT)", "What is sent to one that stopped does not come into the ROW"})
    static void whatIsSentToOneThatStoppedIsSpiltToo(Due d) {
        ViewBroadcast x = Net.of(3);
        Net.link(x, 0, 2);
        x.stop(2);
        filled(x, 498);
        d.due("LETTERS", x.told(2), 499);
        x.tale(0);
        d.due("the 500th is the LETTER 12", Net.letter(x, 499), "12 2>0 0 0");
        x.tale(0);
        d.due("the 501st is SPILT", x.told(3), 1);
        d.due("LETTERS", x.told(2), 500);
    }

    @Says("LETTERS are in a ROW, 500 at most")
    static void rowIsInOrderHoweverManyCame(Due d) {
        ViewBroadcast x = Net.of(4);
        for (int round = 0; round < 4; round++) {
            for (int i = 0; i < 120; i++) {
                x.join(i % 4, (i + 1 + i / 4 % 3) % 4);
            }
            x.stop(9);
            x.deliver(60);
            StringBuilder due = new StringBuilder();
            for (int i = 1; i < x.told(2); i++) {
                due.append(i == 1 ? "" : ", ").append(Net.letter(x, i));
            }
            d.due("go(0)", x.go(0), 0);
            d.due("deliver(0)", x.deliver(0) > 0 ? 1 : 0, 1);
            d.due("those behind it stay in order, " + round, Net.row(x).startsWith(due.toString()) ? 1 : 0, 1);
            x.go(1500);
        }
    }

    @Says("A LETTER has a sender, a receiver, a KIND, x, y, a LIST of NODES.")
    static void aLetterHasSenderReceiverKindXYList(Due d) {
        ViewBroadcast x = Net.sized(3, 5, 7);
        Net.take(x, 0, 1, 2, 3, 4, 5);
        d.due("mix(0)", x.mix(0), 3);
        int i = x.told(2) - 1;
        int[] due = {0, 3, 7, 0, 4, 5};
        for (int what = 0; what < 6; what++) {
            d.due("letter, " + what, x.letter(i, what), due[what]);
        }
        d.due("LIST", Net.letter(x, i), "7 0>3 0 4 [0 4 5 1 2]");
    }

    @Says("A LETTER can COME, if none ahead of it in the ROW has the same sender and receiver.")
    static void aLetterCanComeIfNoneAheadIsOfTheSamePair(Due d) {
        ViewBroadcast x = Net.of(4);
        x.join(1, 0);
        x.join(2, 0);
        x.join(1, 3);
        x.join(0, 1);
        x.join(1, 0);
        d.due("the same sender and receiver", x.deliver(4), -5);
        d.due("all are there", x.told(2), 5);
        d.due("the other way round", x.deliver(3), 1);
        d.due("the same sender", x.deliver(2), 1);
        d.due("the same receiver", x.deliver(1), 1);
        d.due("the same sender and receiver, now at 1", x.deliver(1), -5);
        d.due("the first, with one of the pair behind it", x.deliver(0), 1);
        d.due("the same, now the first", x.deliver(0), 1);
    }

    @Says("A LETTER can COME, if none ahead of it in the ROW has the same sender and receiver.")
    static void aLetterCannotComeThoughTheOneAheadIsFarAhead(Due d) {
        ViewBroadcast x = Net.of(3);
        x.join(1, 0);
        for (int i = 0; i < 498; i++) {
            x.join(2, 0);
        }
        x.join(1, 0);
        d.due("the last of 500", x.deliver(499), -5);
        d.due("the one of another pair", x.deliver(1), 1);
        d.due("the first", x.deliver(0), 1);
        d.due("then it is at 497", Net.letter(x, 497), "1 1>0 0 0");
        d.due("and comes", x.deliver(497), 1);
    }

    // ---- stopping

    @Says("A NODE stops: LETTERS to it go")
    static void lettersToOneThatStopsGo(Due d) {
        ViewBroadcast x = Net.of(5);
        x.join(1, 0);
        x.join(2, 1);
        x.join(0, 2);
        x.join(3, 0);
        x.join(1, 0);
        x.join(4, 3);
        d.due("stop(0)", x.stop(0), 3);
        d.due("the others stay in order, one from it too", Net.row(x), "1 2>1 0 0, 1 0>2 0 0, 1 4>3 0 0, 12 0>2 0 0");
        d.due("stop(1), one to it", x.stop(1), 1);
        d.due("the ROW", Net.row(x), "1 0>2 0 0, 1 4>3 0 0, 12 0>2 0 0");
    }

    @Says("A NODE stops: LETTERS to it go")
    static void ofNoneAndOf500LettersGo(Due d) {
        ViewBroadcast none = Net.of(2);
        d.due("stop(1), no LETTERS", none.stop(1), 0);
        d.due("none is sent", none.told(2), 0);
        ViewBroadcast all = filled(Net.of(2), 500);
        d.due("stop(0), all from it", all.stop(0), 0);
        d.due("LETTER 12 is SPILT", all.told(3), 1);
        d.due("stop(1), all to it", all.stop(1), 500);
        d.due("LETTERS", all.told(2), 0);
    }

    @Says("from it, to each LIVE NODE that has it in its ACTIVE view")
    static void oneThatHasItIsToldOfTheStop(Due d) {
        ViewBroadcast x = Net.of(4);
        Net.take(x, 1, 0);
        Net.take(x, 2, 0);
        x.go(2);
        d.due("0 has both", Net.active(x, 0), "1 2");
        Net.link(x, 0, 3);
        x.stop(2);
        while (x.told(2) > 0) {
            x.deliver(0);
        }
        d.due("LIVE ones that have 0", x.how(1, 0) * 10 + x.how(3, 0), 11);
        d.due("stopped, has 0", x.how(2, 0), 1);
        d.due("stop(0)", x.stop(0), 0);
        d.due("the LIVE ones are told", Net.row(x), "12 0>1 0 0, 12 0>3 0 0");
    }

    @Says("from it, to each LIVE NODE that has it in its ACTIVE view")
    static void oneThatHasItNotIsNotToldOfTheStop(Due d) {
        ViewBroadcast x = Net.sized(2, 5, 5);
        Net.link(x, 0, 1);
        Net.take(x, 1, 2, 3);
        d.due("1 dropped 0", Net.active(x, 1) + " | " + Net.passive(x, 1), "2 3 | 0");
        d.due("0 has 1", Net.active(x, 0), "1");
        x.stop(0);
        d.due("none from 0 to 1", Net.find(x, 12, 0, 1), -1);
        d.due("none at all", Net.count(x, 12), 0);
    }

    @Says("or ASKS it")
    static void oneThatAsksItIsToldOfTheStop(Due d) {
        ViewBroadcast x = asking();
        d.due("1 ASKS 0", x.about(1, 1), 0);
        d.due("0 is not in its ACTIVE view", x.how(1, 0), 3);
        d.due("no LETTER from 0 to 1", Net.find(x, 2, 0, 1) + Net.find(x, 3, 0, 1) + Net.find(x, 4, 0, 1), -3);
        x.stop(0);
        d.due("LETTER 12 to 1", Net.has(x, 12, 0, 1) ? 1 : 0, 1);
    }

    @Says("or ASKS it")
    static void oneThatAsksAnotherIsNotToldOfTheStop(Due d) {
        ViewBroadcast x = Net.sized(2, 5, 6);
        x.coin(1);
        Net.take(x, 4, 2);
        Net.link(x, 4, 1);
        Net.take(x, 4, 3);
        Net.must(x, 4, 4, 1);
        d.due("1 ASKS 4", x.about(1, 1), 4);
        x.stop(0);
        x.stop(3);
        x.stop(5);
        d.due("none to 1", Net.find(x, 12, 0, 1) + Net.find(x, 12, 3, 1) + Net.find(x, 12, 5, 1), -3);
        x.stop(4);
        d.due("LETTER 12 from 4", Net.has(x, 12, 4, 1) ? 1 : 0, 1);
    }

    /** 0 (A 2) dropped 1, who has no other and ASKS it. */
    private static ViewBroadcast asking() {
        ViewBroadcast x = Net.sized(2, 5, 4);
        x.coin(1);
        Net.take(x, 0, 2);
        Net.link(x, 0, 1);
        Net.take(x, 0, 3);
        Net.must(x, 4, 0, 1);
        return x;
    }

    @Says("or to which a LETTER from it is in the ROW")
    static void oneThatItWroteToIsToldOfTheStop(Due d) {
        ViewBroadcast x = Net.of(4);
        x.join(0, 3);
        x.join(2, 1);
        d.due("stop(0)", x.stop(0), 0);
        d.due("LETTER 12 to 3 alone", Net.row(x), "1 0>3 0 0, 1 2>1 0 0, 12 0>3 0 0");
    }

    @Says("or to which a LETTER from it is in the ROW")
    static void oneThatItWroteToAndThatStoppedIsNotTold(Due d) {
        ViewBroadcast x = Net.of(3);
        x.join(0, 2);
        x.stop(2);
        d.due("LETTER 1 went", x.told(2), 0);
        x.stop(0);
        d.due("nobody is told", x.told(2), 0);
    }

    @Says("by numbers, a LETTER 12 behind all others.")
    static void theyAreToldByNumbersBehindAllOthersOnceEach(Due d) {
        ViewBroadcast x = Net.sized(5, 5, 16);
        Net.link(x, 8, 15, 3, 1);
        x.join(8, 0);
        x.join(8, 15);
        x.join(2, 5);
        int before = x.told(2);
        d.due("none to it", x.stop(8), 0);
        d.due("by numbers", Net.row(x, before), "12 8>0 0 0, 12 8>1 0 0, 12 8>3 0 0, 12 8>15 0 0");
    }

    @Says("What is sent to one that stopped does not come into the ROW, but then at once comes a LETTER 12 from it to the sender (in its place).")
    static void tellToOneThatStoppedIsALetter12InItsPlace(Due d) {
        ViewBroadcast x = Net.of(4);
        Net.take(x, 0, 1, 2, 3);
        x.stop(2);
        int before = x.told(2);
        x.tale(0);
        d.due("in its place", Net.row(x, before), "9 0>1 0 1, 12 2>0 0 0, 9 0>3 0 1");
    }

    @Says("What is sent to one that stopped does not come into the ROW, but then at once comes a LETTER 12 from it to the sender (in its place).")
    static void walkPartingWelcomeToOneThatStoppedAreLetters12(Due d) {
        ViewBroadcast x = Net.sized(2, 5, 5);
        Net.take(x, 0, 1, 2);
        x.join(3, 0);
        x.stop(1);
        x.stop(2);
        x.stop(3);
        int before = x.told(2);
        Net.must(x, 1, 3, 0);
        d.due("JOIN came", Net.active(x, 0), "2 3");
        d.due("PARTING, WALK, WELCOME", Net.row(x, before - 1), "12 1>0 0 0, 12 2>0 0 0, 12 3>0 0 0");
    }

    @Says("What is sent to one that stopped does not come into the ROW, but then at once comes a LETTER 12 from it to the sender (in its place).")
    static void mixToOneThatStoppedIsALetter12WithoutAList(Due d) {
        ViewBroadcast x = Net.of(3);
        Net.take(x, 0, 1, 2);
        x.stop(1);
        int before = x.told(2);
        d.due("mix(0): whom it sent to", x.mix(0), 1);
        d.due("in its place", Net.row(x, before), "12 1>0 0 0");
        d.due("LIST", x.letter(before, 5), 0);
        d.due("LIST, its first", x.letter(before, 10), -6);
    }

    @Says("What is sent to one that stopped does not come into the ROW, but then at once comes a LETTER 12 from it to the sender (in its place).")
    static void askingOneThatStoppedIsALetter12AndThenTheNext(Due d) {
        ViewBroadcast x = Net.sized(2, 5, 6);
        Net.take(x, 0, 3, 4, 1, 2);
        d.due("0 knows of", Net.passive(x, 0), "3 4");
        x.stop(3);
        d.due("nobody has 3: nobody is told", Net.count(x, 12), 0);
        x.stop(2);
        Net.must(x, 12, 2, 0);
        d.due("0 ASKS 3", x.about(0, 1), 3);
        d.due("no ASKING, a LETTER 12 in its place", Net.letter(x, x.told(2) - 1), "12 3>0 0 0");
        d.due("it knows of 3 still", Net.passive(x, 0), "3 4");
        Net.must(x, 12, 3, 0);
        d.due("it knows of 3 no more", Net.passive(x, 0), "4");
        d.due("0 ASKS 4", x.about(0, 1), 4);
        d.due("ASKING to 4", Net.letter(x, x.told(2) - 1), "5 0>4 0 0");
    }

    @Says("What is sent to one that stopped does not come into the ROW, but then at once comes a LETTER 12 from it to the sender (in its place).")
    static void theLetter12ActsWhenItComes(Due d) {
        ViewBroadcast y = Net.of(3);
        Net.take(y, 0, 1);
        y.stop(1);
        y.tale(0);
        d.due("one for the stop, one for the TELL", Net.row(y), "12 1>0 0 0, 12 1>0 0 0");
        d.due("0 has it still", Net.active(y, 0), "1");
        d.due("none came yet", y.came(12), 0);
        d.due("the first comes", y.deliver(0), 12);
        d.due("0 has it no more", Net.active(y, 0), "");
        d.due("the second comes", y.deliver(0), 12);
        d.due("both are counted", y.came(12), 2);
    }
}
