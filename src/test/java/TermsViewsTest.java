/** The document's 'Terms', part 2: VIEWS, MEND, LETTERS 1 to 8 and 12, MIX. */
public final class TermsViewsTest {
    public static void main(String[] args) {
        Sentences.run(TermsViewsTest.class);
    }

    /** 0: [9] | [1 2 3], A 3, LONG 1, and no LETTER from 0 to 1, 2 or 3, nor from them to 0; the COIN is 2. */
    private static ViewBroadcast knowing() {
        ViewBroadcast x = Net.walking(1, 0, 4);
        Net.with(x, 16);
        Net.take(x, 9, 3, 1, 2, 0);
        x.coin(2);
        x.mix(9);
        Net.must(x, 3, 9, 0);
        Net.must(x, 7, 9, 0);
        return x;
    }

    /** 0 ADDS a NODE, which stops: 0 is as it was, and MENDS. */
    private static void makeMend(ViewBroadcast x, int passing) {
        Net.take(x, 0, passing);
        x.stop(passing);
        Net.must(x, 12, passing, 0);
    }

    /** knowing(), and 1, 2, 3 are full: each REFUSES. */
    private static ViewBroadcast refused() {
        ViewBroadcast x = knowing();
        for (int n = 1; n <= 3; n++) {
            Net.take(x, n, 4, 5, 6);
        }
        return x;
    }

    /** 0 (A 2) has 2 and 3, and dropped 1, who has no other; PARTING is on its way. */
    private static ViewBroadcast parting() {
        ViewBroadcast x = Net.sized(2, 5, 8);
        x.coin(1);
        Net.take(x, 0, 2);
        Net.link(x, 0, 1);
        Net.take(x, 0, 3);
        return x;
    }

    /** 0: [9] | [1 2 3], MENDING: 3 REFUSED, 1 is ASKED; the COINS are 2, 0 and the second is next. */
    private static ViewBroadcast mending(ViewBroadcast x) {
        x.coin(0);
        makeMend(x, 7);
        Net.must(x, 5, 0, 3);
        Net.must(x, 6, 3, 0);
        return x;
    }

    // ---- ADD

    @Says("not if it is there)")
    static void addNothingIfItIsThere(Due d) {
        ViewBroadcast x = Net.of(4);
        Net.take(x, 0, 1, 2);
        Net.take(x, 0, 1);
        d.due("in its place still", Net.active(x, 0), "1 2");
        Net.take(x, 0, 3);
        Net.take(x, 0, 2);
        d.due("in its place, full", Net.active(x, 0), "1 2 3");
        d.due("nobody is dropped", Net.count(x, 4), 0);
        d.due("nobody is NOTED", x.view(0, 1, -1), 0);
    }

    @Says("not if it is there)")
    static void addNothingToALazyOneThatIsThere(Due d) {
        ViewBroadcast x = Net.triangle();
        x.tale(0);
        x.go(50);
        d.due("LAZY to one another", Net.active(x, 1) + ", " + Net.active(x, 2), "0 2~, 0 1~");
        Net.take(x, 2, 1);
        d.due("LAZY after its JOIN", Net.active(x, 2), "0 1~");
        Net.must(x, 3, 2, 1);
        d.due("LAZY after its WELCOME", Net.active(x, 1), "0 2~");
    }

    @Says({"To ADD a NODE q to the ACTIVE view", "it leaves the PASSIVE view"})
    static void addedOneLeavesThePassiveView(Due d) {
        ViewBroadcast x = Net.sized(2, 2, 6);
        Net.take(x, 0, 1, 2, 3, 4);
        d.due("0 has", Net.active(x, 0) + " | " + Net.passive(x, 0), "3 4 | 1 2");
        Net.coins(x, 0, 1, 1);
        Net.take(x, 0, 1);
        d.due("0 has", Net.active(x, 0) + " | " + Net.passive(x, 0), "4 1 | 2 3");
        d.due("one COIN: it left its place to the one dropped", x.told(7), 1);
    }

    @Says("if the view is full, one of it is DRAWN and DROPPED")
    static void addToAFullViewDrawsOneToDrop(Due d) {
        for (int coin = 0; coin < 4; coin++) {
            ViewBroadcast x = Net.coins(Net.of(5), coin, 7);
            Net.take(x, 0, 1, 2, 3);
            d.due("no COIN until it is full", x.told(7), 0);
            Net.take(x, 0, 4);
            d.due("by COIN " + coin, Net.active(x, 0), new String[] {"2 3 4", "1 3 4", "1 2 4", "2 3 4"}[coin]);
            d.due("it is NOTED", Net.passive(x, 0), new String[] {"1", "2", "3", "1"}[coin]);
            d.due("one COIN", x.told(7), 1);
        }
    }

    @Says("q comes last, EAGER.")
    static void addedOneComesLastAndIsEager(Due d) {
        ViewBroadcast x = new ViewBroadcast();
        x.sizes(2, 5);
        Net.triangle(x);
        Net.with(x, 1);
        x.tale(0);
        x.go(50);
        d.due("2 is LAZY to 1", Net.active(x, 1), "0 2~");
        x.coin(1);
        Net.take(x, 1, 3);
        d.due("2 left", Net.active(x, 1) + " | " + Net.passive(x, 1), "0 3 | 2");
        Net.take(x, 1, 2);
        d.due("2 is last and EAGER", Net.active(x, 1) + " | " + Net.passive(x, 1), "0 2 | 3");
    }

    @Says("If it is the one that is ASKED, none is ASKED then.")
    static void addOfTheOneAskedEndsTheAsking(Due d) {
        ViewBroadcast x = parting();
        Net.must(x, 4, 0, 1);
        d.due("1 ASKS 0", x.about(1, 1), 0);
        Net.take(x, 1, 2);
        d.due("ADDED another: 1 ASKS 0 still", x.about(1, 1), 0);
        Net.take(x, 1, 0);
        d.due("ADDED 0", Net.active(x, 1), "2 0");
        d.due("1 ASKS none", x.about(1, 1), -6);
        ViewBroadcast y = knowing();
        makeMend(y, 7);
        Net.take(y, 0, 1);
        d.due("ADDED 1: 0 ASKS 3 still", y.about(0, 1), 3);
    }

    // ---- DROP and NOTE

    @Says("To DROP one: LETTER 4 to it; it leaves the ACTIVE view, and is NOTED.")
    static void droppedOneIsToldLeavesAndIsNoted(Due d) {
        ViewBroadcast x = Net.sized(2, 5, 4);
        Net.take(x, 0, 1, 2);
        int before = x.told(2);
        Net.take(x, 0, 3);
        d.due("PARTING, then what JOIN sends", Net.row(x, before), "4 0>1 0 0, 2 0>2 3 4, 3 0>3 0 0");
        d.due("it left", Net.active(x, 0), "2 3");
        d.due("it is NOTED", Net.passive(x, 0), "1");
    }

    @Says("To NOTE q in the PASSIVE view (not itself, not if it is in either)")
    static void noteNotItself(Due d) {
        ViewBroadcast x = Net.walking(2, 0, 4);
        Net.with(x, 3);
        Net.take(x, 0, 1, 2);
        Net.link(x, 1, 2);
        Net.must(x, 3, 0, 1);
        d.due("mix(0)", x.mix(0), 1);
        Net.must(x, 2, 0, 1);
        Net.must(x, 7, 0, 1);
        d.due("LIST with 2 itself on its way to 2", Net.letter(x, Net.find(x, 7, 1, 2)), "7 1>2 0 1 [0 2]");
        Net.must(x, 7, 1, 2);
        d.due("2 NOTED 0, not itself", Net.passive(x, 2), "0");
    }

    @Says("not if it is in either)")
    static void noteNotIfItIsInTheActiveView(Due d) {
        ViewBroadcast x = Net.walking(1, 0, 4);
        Net.with(x, 3);
        Net.take(x, 0, 2);
        Net.link(x, 0, 1);
        Net.take(x, 1, 2);
        x.coin(1);
        d.due("mix(0)", x.mix(0), 1);
        d.due("LIST", Net.letter(x, Net.find(x, 7, 0, 1)), "7 0>1 0 1 [0 2]");
        Net.must(x, 7, 0, 1);
        d.due("1 has both", Net.active(x, 1), "0 2");
        d.due("1 NOTED none", Net.passive(x, 1), "");
    }

    @Says("not if it is in either)")
    static void noteNotIfItIsInThePassiveView(Due d) {
        ViewBroadcast x = Net.walking(1, 0, 4);
        x.sizes(2, 2);
        Net.with(x, 6);
        Net.take(x, 0, 3, 4, 5, 1);
        d.due("0 has", Net.active(x, 0) + " | " + Net.passive(x, 0), "5 1 | 3 4");
        Net.must(x, 3, 0, 1);
        Net.take(x, 1, 3);
        d.due("mix(1)", x.mix(1), 0);
        d.due("LIST", Net.letter(x, Net.find(x, 7, 1, 0)), "7 1>0 1 1 [1 3]");
        Net.must(x, 2, 1, 0);
        Net.coins(x, 0, 0);
        Net.must(x, 7, 1, 0);
        d.due("3 is in its place", Net.passive(x, 0), "3 4");
    }

    @Says("if it is full, one of it is DRAWN and leaves; q comes last.")
    static void noteInAFullPassiveViewDrawsOneThatLeaves(Due d) {
        for (int coin = 0; coin < 3; coin++) {
            ViewBroadcast x = Net.sized(2, 2, 6);
            Net.coins(x, 0, 0, 0, coin, 9);
            Net.take(x, 0, 1, 2, 3);
            d.due("the first is NOTED", Net.passive(x, 0), "1");
            Net.take(x, 0, 4);
            d.due("the second is NOTED", Net.passive(x, 0), "1 2");
            d.due("without COINS but for whom to drop", x.told(7), 2);
            Net.take(x, 0, 5);
            d.due("by COIN " + coin, Net.passive(x, 0), coin == 1 ? "1 3" : "2 3");
            d.due("one COIN for each view", x.told(7), 4);
        }
    }

    /** Each of 0 to 3 has the others; 3 MISSES TALE 1, of which 2, then 1 told. */
    private static ViewBroadcast toldOf(ViewBroadcast x) {
        Net.triangle(x);
        x.node();
        x.join(3, 0);
        x.go(50);
        x.tale(0);
        x.go(50);
        x.tale(0);
        Net.must(x, 9, 0, 1);
        Net.must(x, 9, 0, 2);
        Net.must(x, 10, 2, 3);
        Net.must(x, 10, 1, 3);
        return x;
    }

    @Says("One that leaves the ACTIVE view is no longer told of in what is MISSED.")
    static void oneThatIsDroppedIsNoLongerToldOf(Due d) {
        ViewBroadcast x = Net.with(toldOf(Net.walking(4, 2, 1)), 1);
        d.due("3 has", Net.active(x, 3), "0 2~ 1~");
        d.due("two told", x.missed(3, 1), 2);
        x.coin(1);
        Net.take(x, 3, 4);
        d.due("2 is dropped", Net.active(x, 3), "0 1~ 4");
        d.due("one told", x.missed(3, 1), 1);
        x.tick();
        d.due("it is 1", Net.has(x, 11, 3, 1) ? 1 : 0, 1);
    }

    @Says("One that leaves the ACTIVE view is no longer told of in what is MISSED.")
    static void oneThatPartsIsNoLongerToldOf(Due d) {
        ViewBroadcast x = Net.with(toldOf(new ViewBroadcast()), 1);
        d.due("2 has", Net.active(x, 2), "0 1~ 3~");
        x.coin(2);
        Net.take(x, 2, 4);
        d.due("two told", x.missed(3, 1), 2);
        Net.must(x, 4, 2, 3);
        d.due("one told", x.missed(3, 1), 1);
        d.due("MISSED still", x.about(3, 4), 1);
    }

    @Says("One that leaves the ACTIVE view is no longer told of in what is MISSED.")
    static void oneThatStopsIsNoLongerToldOf(Due d) {
        ViewBroadcast x = toldOf(new ViewBroadcast());
        x.stop(2);
        d.due("not before it comes", x.missed(3, 1), 2);
        Net.must(x, 12, 2, 3);
        d.due("one told", x.missed(3, 1), 1);
        x.stop(1);
        Net.must(x, 12, 1, 3);
        d.due("none told", x.missed(3, 1), 0);
        d.due("MISSED still", x.about(3, 4), 1);
    }

    // ---- MEND

    @Says("To MEND: if the ACTIVE view is not full, none is ASKED:")
    static void mendNothingIfTheActiveViewIsFull(Due d) {
        ViewBroadcast x = Net.sized(2, 5, 5);
        Net.link(x, 0, 1);
        Net.take(x, 0, 2, 3, 4);
        d.due("0 has", Net.active(x, 0) + " | " + Net.passive(x, 0), "3 4 | 1 2");
        x.mix(1);
        x.stop(1);
        Net.must(x, 7, 1, 0);
        Net.must(x, 12, 1, 0);
        d.due("0 has", Net.active(x, 0) + " | " + Net.passive(x, 0), "3 4 | 2");
        d.due("0 ASKS none", x.about(0, 1), -6);
        d.due("no ASKING", Net.count(x, 5), 0);
    }

    @Says("To MEND: if the ACTIVE view is not full, none is ASKED:")
    static void mendNothingIfOneIsAsked(Due d) {
        ViewBroadcast x = knowing();
        makeMend(x, 7);
        d.due("0 ASKS", x.about(0, 1), 3);
        makeMend(x, 8);
        d.due("0 ASKS it still", x.about(0, 1), 3);
        d.due("one ASKING", Net.count(x, 5), 1);
        d.due("none counts as ASKED", x.about(0, 2), 0);
    }

    @Says("To MEND: if the ACTIVE view is not full, none is ASKED:")
    static void mendWithOnePlaceLeft(Due d) {
        ViewBroadcast x = knowing();
        Net.take(x, 0, 10, 11);
        d.due("full", Net.active(x, 0), "9 10 11");
        x.stop(11);
        Net.must(x, 12, 11, 0);
        d.due("one place is left", Net.active(x, 0), "9 10");
        d.due("0 ASKS", x.about(0, 1), 3);
    }

    @Says("of the PASSIVE view those not ASKED since this mending began, in order: one is DRAWN")
    static void mendDrawsOneOfThoseNotAsked(Due d) {
        ViewBroadcast x = refused();
        x.coin(1);
        makeMend(x, 7);
        d.due("COIN 2 of 1, 2, 3", x.about(0, 1), 3);
        Net.must(x, 5, 0, 3);
        Net.must(x, 6, 3, 0);
        d.due("COIN 1 of 1, 2", x.about(0, 1), 2);
        d.due("ASKED: 3", x.about(0, 2), 8);
        d.due("told(7)", x.told(7), 0);
        Net.must(x, 5, 0, 2);
        Net.must(x, 6, 2, 0);
        d.due("1 alone is left", x.about(0, 1), 1);
        d.due("ASKED: 2 and 3", x.about(0, 2), 12);
        d.due("without a COIN", x.told(7), 0);
    }

    @Says("it is the one ASKED, LETTER 5 to it, x 1 if the ACTIVE view is empty, else 0.")
    static void mendAsksWithX1IfTheActiveViewIsEmpty(Due d) {
        ViewBroadcast x = parting();
        Net.must(x, 4, 0, 1);
        d.due("1 has none", x.view(1, 0, -1), 0);
        d.due("1 ASKS 0", x.about(1, 1), 0);
        d.due("x 1", Net.letter(x, x.told(2) - 1), "5 1>0 1 0");
    }

    @Says("it is the one ASKED, LETTER 5 to it, x 1 if the ACTIVE view is empty, else 0.")
    static void mendAsksWithX0IfTheActiveViewHasOne(Due d) {
        ViewBroadcast x = knowing();
        makeMend(x, 7);
        d.due("0 has one", Net.active(x, 0), "9");
        d.due("0 ASKS 3", x.about(0, 1), 3);
        d.due("x 0", Net.letter(x, x.told(2) - 1), "5 0>3 0 0");
        d.due("it stays in the PASSIVE view", Net.passive(x, 0), "1 2 3");
    }

    @Says("If there are none, the mending ends: those ASKED are forgotten.")
    static void mendEndsIfAllWereAsked(Due d) {
        ViewBroadcast x = mending(refused());
        Net.must(x, 5, 0, 1);
        Net.must(x, 6, 1, 0);
        d.due("ASKED: 1 and 3", x.about(0, 2), 10);
        Net.must(x, 5, 0, 2);
        Net.must(x, 6, 2, 0);
        d.due("ASKED: forgotten", x.about(0, 2), 0);
        d.due("0 ASKS none", x.about(0, 1), -6);
        d.due("no ASKING", Net.count(x, 5), 0);
        makeMend(x, 8);
        d.due("the next mending: COIN 2 of 1, 2, 3", x.about(0, 1), 3);
    }

    @Says("If there are none, the mending ends: those ASKED are forgotten.")
    static void mendOfAnEmptyPassiveViewAsksNobody(Due d) {
        ViewBroadcast x = Net.of(2);
        Net.link(x, 0, 1);
        x.stop(1);
        Net.must(x, 12, 1, 0);
        d.due("0 has none", x.view(0, 0, -1) + x.view(0, 1, -1), 0);
        d.due("0 ASKS none", x.about(0, 1), -6);
        d.due("no LETTER", x.told(2), 0);
    }

    // ---- LETTER 1

    @Says("LETTERS, come to r from s, by KIND: 1 JOIN: ADD s; then to each other one of the ACTIVE view, in order, LETTER 2 with x s, y LONG; to s LETTER 3.")
    static void joinAddsTellsTheOthersAndWelcomes(Due d) {
        ViewBroadcast x = Net.of(5);
        Net.take(x, 0, 2);
        d.due("alone: WELCOME", Net.row(x), "3 0>2 0 0");
        Net.take(x, 0, 1);
        d.due("one other", Net.row(x, 1), "2 0>2 1 4, 3 0>1 0 0");
        Net.take(x, 0, 4);
        d.due("two others, in order", Net.row(x, 3), "2 0>2 4 4, 2 0>1 4 4, 3 0>4 0 0");
        d.due("0 has", Net.active(x, 0), "2 1 4");
    }

    @Says("LETTERS, come to r from s, by KIND: 1 JOIN: ADD s; then to each other one of the ACTIVE view, in order, LETTER 2 with x s, y LONG; to s LETTER 3.")
    static void joinOfOneThatIsThereTellsTheOthersAgain(Due d) {
        ViewBroadcast x = Net.of(4);
        Net.take(x, 0, 1, 2, 3);
        int before = x.told(2);
        Net.take(x, 0, 2);
        d.due("WALKS and WELCOME", Net.row(x, before), "2 0>1 2 4, 2 0>3 2 4, 3 0>2 0 0");
    }

    // ---- LETTER 2

    /** 1 is about to get a WALK of 3 from 0, y LONG; 1 has 0 and those that joined it. */
    private static ViewBroadcast walkTo1(ViewBroadcast x, int... joiners) {
        Net.with(x, 12);
        Net.link(x, 0, 1);
        Net.take(x, 1, joiners);
        Net.take(x, 0, 3);
        return x;
    }

    @Says("2 WALK (x the joiner, y steps): if x is r: nothing. If y is 0, or the ACTIVE view has one at most: ADD x, LETTER 3 to x")
    static void walkEndsAtOneWithOneLink(Due d) {
        ViewBroadcast x = walkTo1(new ViewBroadcast());
        int before = x.told(2);
        d.due("1 has", Net.active(x, 1), "0");
        Net.must(x, 2, 0, 1);
        d.due("1 has", Net.active(x, 1), "0 3");
        d.due("WELCOME", Net.row(x, before - 1), "3 1>3 0 0");
    }

    @Says("2 WALK (x the joiner, y steps): if x is r: nothing. If y is 0, or the ACTIVE view has one at most: ADD x, LETTER 3 to x")
    static void walkGoesOnAtOneWithTwoLinks(Due d) {
        ViewBroadcast x = walkTo1(new ViewBroadcast(), 2);
        int before = x.told(2);
        Net.must(x, 2, 0, 1);
        d.due("1 has", Net.active(x, 1), "0 2");
        d.due("on to 2, y less 1", Net.row(x, before - 1), "2 1>2 3 3");
    }

    @Says("2 WALK (x the joiner, y steps): if x is r: nothing. If y is 0, or the ACTIVE view has one at most: ADD x, LETTER 3 to x")
    static void walkEndsAtOneWithoutALink(Due d) {
        ViewBroadcast x = Net.sized(2, 5, 8);
        Net.link(x, 1, 0);
        Net.take(x, 1, 4, 5);
        d.due("1 dropped 0", Net.active(x, 1), "4 5");
        x.stop(4);
        x.stop(5);
        Net.must(x, 12, 4, 1);
        Net.must(x, 12, 5, 1);
        Net.take(x, 0, 3);
        d.due("1 has none", x.view(1, 0, -1), 0);
        Net.must(x, 2, 0, 1);
        d.due("1 has", Net.active(x, 1), "3");
        d.due("WELCOME", Net.letter(x, x.told(2) - 1), "3 1>3 0 0");
    }

    @Says("2 WALK (x the joiner, y steps): if x is r: nothing. If y is 0, or the ACTIVE view has one at most: ADD x, LETTER 3 to x")
    static void walkEndsWithY0HoweverManyLinks(Due d) {
        ViewBroadcast x = walkTo1(Net.walking(1, 0, 4), 2);
        Net.take(x, 2, 4, 5);
        Net.must(x, 3, 1, 2);
        d.due("2 has", Net.active(x, 2), "4 5 1");
        Net.must(x, 2, 0, 1);
        d.due("y 1 goes on with y 0", Net.letter(x, x.told(2) - 1), "2 1>2 3 0");
        int before = x.told(2);
        Net.must(x, 2, 1, 2);
        d.due("2 dropped one and has it", Net.active(x, 2), "5 1 3");
        d.due("not NOTED, though SHORT is 0", Net.passive(x, 2), "4");
        d.due("PARTING, WELCOME", Net.row(x, before - 1), "4 2>4 0 0, 3 2>3 0 0");
    }

    @Says("2 WALK (x the joiner, y steps): if x is r: nothing. If y is 0, or the ACTIVE view has one at most: ADD x, LETTER 3 to x")
    static void walkEndsAtOneWithOneLinkThatIsNotTheSender(Due d) {
        ViewBroadcast x = Net.sized(2, 5, 8);
        Net.link(x, 1, 0);
        Net.take(x, 1, 4, 5);
        x.stop(4);
        Net.must(x, 12, 4, 1);
        Net.take(x, 0, 3);
        d.due("1 has", Net.active(x, 1), "5");
        Net.must(x, 2, 0, 1);
        d.due("1 has", Net.active(x, 1), "5 3");
        d.due("WELCOME", Net.letter(x, x.told(2) - 1), "3 1>3 0 0");
    }

    @Says("(if x is there already: nothing)")
    static void walkOfOneThatIsThereEndsWithNothing(Due d) {
        ViewBroadcast x = Net.walking(1, 0, 4);
        Net.with(x, 6);
        Net.link(x, 0, 1);
        Net.take(x, 1, 2);
        Net.take(x, 2, 4, 3);
        Net.must(x, 3, 1, 2);
        Net.take(x, 0, 3);
        Net.must(x, 2, 0, 1);
        d.due("WALK with y 0", Net.letter(x, Net.find(x, 2, 1, 2)), "2 1>2 3 0");
        int before = x.told(2);
        Net.must(x, 2, 1, 2);
        d.due("2 has", Net.active(x, 2) + " | " + Net.passive(x, 2), "4 3 1 | ");
        d.due("no LETTER", x.told(2), before - 1);
    }

    @Says("(if x is there already: nothing)")
    static void walkOfTheOnlyOneThatIsThereEndsWithNothing(Due d) {
        ViewBroadcast x = Net.sized(2, 5, 8);
        Net.link(x, 1, 0);
        Net.take(x, 1, 4, 3);
        d.due("1 dropped 0", Net.active(x, 1), "4 3");
        x.stop(4);
        Net.must(x, 12, 4, 1);
        Net.take(x, 0, 3);
        d.due("1 has", Net.active(x, 1), "3");
        int before = x.told(2);
        Net.must(x, 2, 0, 1);
        d.due("1 has", Net.active(x, 1), "3");
        d.due("no LETTER", x.told(2), before - 1);
    }

    @Says("Else: if y is SHORT, NOTE x;")
    static void walkIsNotedWhereItGoesOnWithShortSteps(Due d) {
        for (int s = 0; s <= 4; s++) {
            ViewBroadcast x = walkTo1(Net.walking(4, s, 4), 2);
            Net.must(x, 2, 0, 1);
            d.due("y 4, SHORT " + s, Net.passive(x, 1), s < 4 ? "" : "3");
            Net.must(x, 3, 1, 2);
            Net.take(x, 2, 5);
            Net.must(x, 2, 1, 2);
            d.due("y 3, SHORT " + s, Net.passive(x, 2), s == 3 ? "3" : "");
        }
    }

    @Says("Else: if y is SHORT, NOTE x;")
    static void walkThatEndsWithShortStepsIsNotNoted(Due d) {
        ViewBroadcast x = walkTo1(Net.walking(4, 4, 4));
        Net.must(x, 2, 0, 1);
        d.due("ADDED, with SHORT steps left", Net.active(x, 1) + " | " + Net.passive(x, 1), "0 3 | ");
    }

    @Says("Else: if y is SHORT, NOTE x;")
    static void walkIsNotedAheadOfTheDrawing(Due d) {
        ViewBroadcast x = Net.walking(4, 4, 4);
        x.sizes(3, 2);
        Net.with(x, 12);
        Net.take(x, 1, 4, 5, 6, 7);
        Net.link(x, 0, 1);
        d.due("1 has", Net.active(x, 1) + " | " + Net.passive(x, 1), "6 7 0 | 4 5");
        Net.coins(x, 1, 0, 0);
        Net.take(x, 0, 3);
        Net.must(x, 2, 0, 1);
        d.due("COIN 1 for the PASSIVE view", Net.passive(x, 1), "4 3");
        d.due("COIN 0 for the way", Net.letter(x, x.told(2) - 1), "2 1>6 3 3");
        d.due("told(7)", x.told(7), 2);
    }

    @Says("of the ACTIVE view without s and x one is DRAWN: LETTER 2 to it, y less 1")
    static void walkGoesOnToOneDrawnWithoutSenderAndJoiner(Due d) {
        for (int coin = 0; coin < 4; coin++) {
            ViewBroadcast x = new ViewBroadcast();
            x.sizes(5, 5);
            walkTo1(x, 4, 3, 5, 6);
            Net.coins(x, coin, 0);
            d.due("1 has", Net.active(x, 1), "0 4 3 5 6");
            Net.must(x, 2, 0, 1);
            int to = new int[] {4, 5, 6, 4}[coin];
            d.due("COIN " + coin + " of 4, 5, 6", Net.letter(x, x.told(2) - 1), "2 1>" + to + " 3 3");
            d.due("told(7)", x.told(7), 1);
        }
    }

    @Says("of the ACTIVE view without s and x one is DRAWN: LETTER 2 to it, y less 1; if there is none: as with y 0.")
    static void walkWithoutAWayOnEnds(Due d) {
        ViewBroadcast x = walkTo1(Net.walking(4, 4, 4), 3);
        d.due("1 has sender and joiner", Net.active(x, 1), "0 3");
        int before = x.told(2);
        Net.must(x, 2, 0, 1);
        d.due("1 has", Net.active(x, 1) + " | " + Net.passive(x, 1), "0 3 | ");
        d.due("no LETTER", x.told(2), before - 1);
    }

    // ---- LETTERS 3 to 6

    @Says("3 WELCOME: ADD s; those ASKED are forgotten.")
    static void welcomeAddsAndForgetsThoseAsked(Due d) {
        ViewBroadcast x = mending(refused());
        d.due("ASKED: 3", x.about(0, 2), 8);
        d.due("0 ASKS", x.about(0, 1), 1);
        x.join(0, 10);
        Net.must(x, 1, 0, 10);
        Net.must(x, 3, 10, 0);
        d.due("0 has", Net.active(x, 0), "9 10");
        d.due("ASKED: forgotten", x.about(0, 2), 0);
        d.due("0 ASKS 1 still", x.about(0, 1), 1);
        Net.must(x, 5, 0, 1);
        Net.must(x, 6, 1, 0);
        d.due("ASKED: 1", x.about(0, 2), 2);
        d.due("0 ASKS one of 2, 3 by COIN 2", x.about(0, 1), 2);
    }

    @Says("3 WELCOME: ADD s; those ASKED are forgotten.")
    static void welcomeOfTheOneAskedEndsTheMending(Due d) {
        ViewBroadcast x = knowing();
        Net.take(x, 3, 4, 5, 6);
        mending(x);
        Net.must(x, 5, 0, 1);
        d.due("1 takes it", Net.active(x, 1), "0");
        Net.must(x, 3, 1, 0);
        d.due("0 has", Net.active(x, 0) + " | " + Net.passive(x, 0), "9 1 | 2 3");
        d.due("0 ASKS none", x.about(0, 1), -6);
        d.due("ASKED: forgotten", x.about(0, 2), 0);
        d.due("no more is ASKED, though there is a place", Net.count(x, 5), 0);
    }

    @Says("3 WELCOME: ADD s; those ASKED are forgotten.")
    static void welcomeToAFullViewDropsOne(Due d) {
        ViewBroadcast x = Net.sized(2, 5, 4);
        x.join(0, 1);
        Net.take(x, 0, 2, 3);
        Net.must(x, 1, 0, 1);
        Net.must(x, 3, 1, 0);
        d.due("0 has", Net.active(x, 0) + " | " + Net.passive(x, 0), "3 1 | 2");
        d.due("PARTING", Net.has(x, 4, 0, 2) ? 1 : 0, 1);
    }

    @Says("4 PARTING: if s is in the ACTIVE view: it leaves, NOTE s, MEND.")
    static void partingLeavesIsNotedAndMended(Due d) {
        ViewBroadcast x = parting();
        d.due("1 has", Net.active(x, 1) + " | " + Net.passive(x, 1), "0 | ");
        Net.must(x, 4, 0, 1);
        d.due("1 has", Net.active(x, 1) + " | " + Net.passive(x, 1), " | 0");
        d.due("1 MENDS: it ASKS the one it NOTED", x.about(1, 1), 0);
    }

    @Says("4 PARTING: if s is in the ACTIVE view: it leaves, NOTE s, MEND.")
    static void partingOfOneNotInTheActiveViewIsNothing(Due d) {
        ViewBroadcast x = Net.sized(2, 2, 9);
        Net.link(x, 0, 1);
        Net.take(x, 1, 2, 3, 4, 5);
        d.due("1 has 0 in neither view", Net.active(x, 1) + " | " + Net.passive(x, 1), "4 5 | 2 3");
        x.coin(0);
        Net.take(x, 0, 6, 7);
        Net.must(x, 2, 0, 1);
        int before = x.told(2);
        d.due("1 has", Net.active(x, 1) + " | " + Net.passive(x, 1), "4 5 | 2 3");
        Net.must(x, 4, 0, 1);
        d.due("1 has", Net.active(x, 1) + " | " + Net.passive(x, 1), "4 5 | 2 3");
        d.due("no LETTER", x.told(2), before - 1);
    }

    @Says("5 ASKING: if x is 1, or the ACTIVE view is not full (or s is in it): ADD s, LETTER 3 to s; else LETTER 6.")
    static void askingWithX1IsTakenThoughFull(Due d) {
        ViewBroadcast x = parting();
        Net.must(x, 4, 0, 1);
        d.due("0 is full", Net.active(x, 0), "2 3");
        int before = x.told(2);
        Net.must(x, 5, 1, 0);
        d.due("0 has", Net.active(x, 0) + " | " + Net.passive(x, 0), "2 1 | 3");
        d.due("PARTING, WELCOME", Net.row(x, before - 1), "4 0>3 0 0, 3 0>1 0 0");
    }

    @Says("5 ASKING: if x is 1, or the ACTIVE view is not full (or s is in it): ADD s, LETTER 3 to s; else LETTER 6.")
    static void askingIsTakenIfOnePlaceIsLeft(Due d) {
        ViewBroadcast x = knowing();
        Net.take(x, 3, 4, 5);
        makeMend(x, 7);
        int before = x.told(2);
        Net.must(x, 5, 0, 3);
        d.due("3 has", Net.active(x, 3), "4 5 0");
        d.due("WELCOME", Net.row(x, before - 1), "3 3>0 0 0");
    }

    @Says("5 ASKING: if x is 1, or the ACTIVE view is not full (or s is in it): ADD s, LETTER 3 to s; else LETTER 6.")
    static void askingIsRefusedIfFull(Due d) {
        ViewBroadcast x = knowing();
        Net.take(x, 3, 4, 5, 6);
        makeMend(x, 7);
        int before = x.told(2);
        Net.must(x, 5, 0, 3);
        d.due("3 has", Net.active(x, 3) + " | " + Net.passive(x, 3), "4 5 6 | ");
        d.due("REFUSAL", Net.row(x, before - 1), "6 3>0 0 0");
    }

    @Says("5 ASKING: if x is 1, or the ACTIVE view is not full (or s is in it): ADD s, LETTER 3 to s; else LETTER 6.")
    static void askingOfOneThatIsInAFullViewIsWelcomed(Due d) {
        ViewBroadcast x = knowing();
        Net.take(x, 3, 0, 4, 5);
        makeMend(x, 7);
        int before = x.told(2);
        d.due("x 0", Net.letter(x, Net.find(x, 5, 0, 3)), "5 0>3 0 0");
        Net.must(x, 5, 0, 3);
        d.due("3 has", Net.active(x, 3) + " | " + Net.passive(x, 3), "0 4 5 | ");
        d.due("WELCOME", Net.row(x, before - 1), "3 3>0 0 0");
    }

    @Says("6 REFUSAL: if s is the one ASKED: none is; it counts as ASKED; MEND.")
    static void refusalCountsAsAskedAndIsMended(Due d) {
        ViewBroadcast x = refused();
        makeMend(x, 7);
        Net.must(x, 5, 0, 3);
        d.due("0 ASKS 3 until it comes", x.about(0, 1), 3);
        d.due("3 does not count yet", x.about(0, 2), 0);
        Net.must(x, 6, 3, 0);
        d.due("3 counts as ASKED", x.about(0, 2), 8);
        d.due("0 ASKS the next", x.about(0, 1), 1);
        d.due("ASKING", Net.letter(x, x.told(2) - 1), "5 0>1 0 0");
        d.due("3 stays in the PASSIVE view", Net.passive(x, 0), "1 2 3");
    }

    @Says("6 REFUSAL: if s is the one ASKED: none is; it counts as ASKED; MEND.")
    static void refusalToOneThatIsFullByNowIsNotMended(Due d) {
        ViewBroadcast x = refused();
        makeMend(x, 7);
        Net.must(x, 5, 0, 3);
        Net.take(x, 0, 10, 11);
        Net.must(x, 6, 3, 0);
        d.due("0 ASKS none", x.about(0, 1), -6);
        d.due("3 counts as ASKED", x.about(0, 2), 8);
        d.due("no ASKING", Net.count(x, 5), 0);
    }

    @Says("6 REFUSAL: if s is the one ASKED: none is; it counts as ASKED; MEND.")
    static void refusalOfOneThatIsNotAskedIsNothing(Due d) {
        ViewBroadcast x = refused();
        x.coin(0);
        makeMend(x, 7);
        Net.must(x, 5, 0, 3);
        Net.take(x, 9, 3);
        Net.must(x, 2, 9, 0);
        d.due("0 ADDED 3", Net.active(x, 0) + " | " + Net.passive(x, 0), "9 3 | 1 2");
        d.due("0 ASKS none", x.about(0, 1), -6);
        int before = x.told(2);
        Net.must(x, 6, 3, 0);
        d.due("none counts as ASKED", x.about(0, 2), 0);
        d.due("0 ASKS none", x.about(0, 1), -6);
        d.due("0 has", Net.active(x, 0) + " | " + Net.passive(x, 0), "9 3 | 1 2");
        d.due("no LETTER", x.told(2), before - 1);
    }

    @Says("6 REFUSAL: if s is the one ASKED: none is; it counts as ASKED; MEND.")
    static void refusalOfAnotherThanTheOneAskedIsNothing(Due d) {
        ViewBroadcast x = mending(refused());
        Net.must(x, 5, 0, 1);
        Net.take(x, 9, 1);
        Net.must(x, 2, 9, 0);
        d.due("0 ADDED 1", Net.active(x, 0) + " | " + Net.passive(x, 0), "9 1 | 2 3");
        makeMend(x, 8);
        d.due("0 ASKS 2", x.about(0, 1), 2);
        Net.must(x, 6, 1, 0);
        d.due("0 ASKS 2 still", x.about(0, 1), 2);
        d.due("ASKED: 3 alone", x.about(0, 2), 8);
        d.due("one ASKING", Net.count(x, 5), 1);
    }

    // ---- LETTERS 7 and 8

    /** 1 is about to get a MIX of 0, y LONG, LIST 0; 1 has 0 and those that joined it. */
    private static ViewBroadcast mixTo1(ViewBroadcast x, int... joiners) {
        Net.with(x, 12);
        Net.link(x, 0, 1);
        Net.take(x, 1, joiners);
        x.mix(0);
        return x;
    }

    @Says("if y is above 1, and of the ACTIVE view without s and x there is one: LETTER 7 to one DRAWN of these, y less 1, same x and LIST.")
    static void mixGoesOnWithY2AndEndsWithY1(Due d) {
        ViewBroadcast x = mixTo1(Net.walking(2, 0, 4), 2);
        int before = x.told(2);
        Net.must(x, 7, 0, 1);
        d.due("y 2: on to 2", Net.row(x, before - 1), "7 1>2 0 1 [0]");
        d.due("1 NOTED none", x.view(1, 1, -1), 0);
        Net.must(x, 3, 1, 2);
        Net.take(x, 2, 4, 5);
        before = x.told(2);
        Net.must(x, 7, 1, 2);
        d.due("y 1: MIXED to the one who began", Net.row(x, before - 1), "8 2>0 0 0");
        d.due("2 NOTED it", Net.passive(x, 2), "0");
    }

    @Says("if y is above 1, and of the ACTIVE view without s and x there is one: LETTER 7 to one DRAWN of these, y less 1, same x and LIST.")
    static void mixEndsWithLong1(Due d) {
        ViewBroadcast x = mixTo1(Net.walking(1, 0, 4), 2);
        int before = x.told(2);
        Net.must(x, 7, 0, 1);
        d.due("MIXED", Net.row(x, before - 1), "8 1>0 0 0");
    }

    @Says("if y is above 1, and of the ACTIVE view without s and x there is one: LETTER 7 to one DRAWN of these, y less 1, same x and LIST.")
    static void mixGoesOnToOneDrawnWithoutSenderAndBeginner(Due d) {
        for (int coin = 0; coin < 4; coin++) {
            ViewBroadcast x = Net.walking(3, 0, 4);
            x.sizes(5, 5);
            mixTo1(x, 2);
            Net.must(x, 7, 0, 1);
            Net.must(x, 3, 1, 2);
            Net.take(x, 2, 0, 4, 5, 6);
            d.due("2 has sender, beginner, others", Net.active(x, 2), "1 0 4 5 6");
            Net.coins(x, coin, 0);
            Net.must(x, 7, 1, 2);
            int to = new int[] {4, 5, 6, 4}[coin];
            d.due("COIN " + coin + " of 4, 5, 6", Net.letter(x, x.told(2) - 1), "7 2>" + to + " 0 1 [0]");
            d.due("told(7)", x.told(7), 1);
        }
    }

    @Says("if y is above 1, and of the ACTIVE view without s and x there is one")
    static void mixWithoutAWayOnEnds(Due d) {
        ViewBroadcast x = mixTo1(Net.walking(6, 0, 4));
        Net.must(x, 7, 0, 1);
        d.due("y 6, but 1 has the sender alone", Net.row(x), "8 1>0 0 0");
        ViewBroadcast y = mixTo1(Net.walking(6, 0, 4), 2);
        Net.must(y, 7, 0, 1);
        Net.must(y, 3, 1, 2);
        Net.take(y, 2, 0);
        Net.must(y, 7, 1, 2);
        d.due("y 5, but 2 has sender and beginner alone", Net.letter(y, y.told(2) - 1), "8 2>0 0 0");
    }

    /** What 1, with a PASSIVE view of 4 and on, answers to a MIX with a LIST of 0, then 2 and on; one COIN. */
    private static String answer(int listed, int passive) {
        ViewBroadcast x = Net.walking(1, 0, 4);
        Net.with(x, 16);
        for (int n = 0; n < passive + 2; n++) {
            Net.take(x, 1, 4 + n);
        }
        for (int n = 1; n < listed; n++) {
            Net.take(x, 0, n + 1);
        }
        Net.link(x, 0, 1);
        x.coin(listed - 1);
        x.mix(0);
        String mix = Net.passive(x, 1) + " : " + Net.letter(x, Net.find(x, 7, 0, 1));
        Net.must(x, 7, 0, 1);
        return mix + " : " + Net.letter(x, x.told(2) - 1);
    }

    @Says("Else: LETTER 8 to x (if x is not r) with as many of the PASSIVE view, DRAWN one by one, as LIST has, or all")
    static void mixIsAnsweredWithAsManyAsListHasOrAll(Due d) {
        d.due("LIST 1, PASSIVE 3", answer(1, 3), "4 5 6 : 7 0>1 0 1 [0] : 8 1>0 0 0 [4]");
        d.due("LIST 2, PASSIVE 1", answer(2, 1), "4 : 7 0>1 0 1 [0 2] : 8 1>0 0 0 [4]");
        d.due("LIST 2, PASSIVE 2", answer(2, 2), "4 5 : 7 0>1 0 1 [0 2] : 8 1>0 0 0 [5 4]");
        d.due("LIST 2, PASSIVE 3", answer(2, 3), "4 5 6 : 7 0>1 0 1 [0 2] : 8 1>0 0 0 [5 6]");
        d.due("LIST 3, PASSIVE 2", answer(3, 2), "4 5 : 7 0>1 0 1 [0 2 3] : 8 1>0 0 0 [4 5]");
        d.due("LIST 3, PASSIVE 3", answer(3, 3), "4 5 6 : 7 0>1 0 1 [0 2 3] : 8 1>0 0 0 [6 4 5]");
        d.due("LIST 3, PASSIVE 4", answer(3, 4), "4 5 6 7 : 7 0>1 0 1 [0 2 3] : 8 1>0 0 0 [6 7 4]");
        d.due("LIST 3, PASSIVE 5", answer(3, 5), "4 5 6 7 8 : 7 0>1 0 1 [0 2 3] : 8 1>0 0 0 [6 7 8]");
    }

    @Says("with as many of the PASSIVE view, DRAWN one by one, as LIST has, or all")
    static void mixWithAListOf5IsAnsweredWith5(Due d) {
        ViewBroadcast x = Net.walking(1, 0, 4);
        x.sizes(3, 8);
        Net.with(x, 16);
        Net.take(x, 1, 4, 5, 6, 7, 8, 9, 10, 11);
        Net.take(x, 0, 12, 13, 14, 2, 3);
        Net.link(x, 0, 1);
        x.coin(2);
        d.due("mix(0)", x.mix(0), 1);
        d.due("LIST", Net.letter(x, x.told(2) - 1), "7 0>1 0 1 [0 2 3 14 12]");
        d.due("1 knows of", Net.passive(x, 1), "4 5 6 7 8 9");
        Net.must(x, 7, 0, 1);
        d.due("MIXED", Net.letter(x, x.told(2) - 1), "8 1>0 0 0 [6 7 8 9 4]");
    }

    @Says("with as many of the PASSIVE view, DRAWN one by one, as LIST has, or all")
    static void mixIsAnsweredWithNoneOfAnEmptyPassiveView(Due d) {
        ViewBroadcast x = mixTo1(Net.walking(1, 0, 4));
        x.coin(1);
        Net.must(x, 7, 0, 1);
        d.due("LIST of none", Net.row(x), "8 1>0 0 0");
        d.due("its length", x.letter(0, 5), 0);
    }

    @Says("with as many of the PASSIVE view, DRAWN one by one, as LIST has, or all")
    static void mixIsAnsweredWithNode0Too(Due d) {
        ViewBroadcast x = Net.walking(1, 0, 4);
        x.sizes(2, 5);
        Net.with(x, 8);
        Net.take(x, 1, 0, 4, 5);
        Net.link(x, 7, 1);
        d.due("1 has", Net.active(x, 1) + " | " + Net.passive(x, 1), "5 7 | 0 4");
        d.due("mix(7)", x.mix(7), 1);
        Net.must(x, 7, 7, 1);
        d.due("MIXED", Net.letter(x, x.told(2) - 1), "8 1>7 0 0 [0]");
    }

    @Says("then LIST is TAKEN.")
    static void mixIsAnsweredAheadOfTheTaking(Due d) {
        ViewBroadcast x = Net.walking(1, 0, 4);
        x.sizes(2, 2);
        Net.with(x, 8);
        Net.take(x, 0, 2);
        Net.link(x, 0, 1);
        Net.take(x, 1, 4, 5, 6, 7);
        d.due("1 has", Net.active(x, 1) + " | " + Net.passive(x, 1), "6 7 | 4 5");
        x.coin(1);
        d.due("mix(0)", x.mix(0), 1);
        Net.must(x, 7, 0, 1);
        d.due("the answer is of what it knew", Net.letter(x, x.told(2) - 1), "8 1>0 0 0 [5 4]");
        d.due("LIST 0, 2 is TAKEN: 5, then 0 leave by COIN 1", Net.passive(x, 1), "4 2");
    }

    @Says("8 MIXED: LIST is TAKEN: each of it is NOTED, in order.")
    static void mixedIsNotedInOrder(Due d) {
        ViewBroadcast x = Net.walking(1, 0, 4);
        Net.with(x, 16);
        Net.take(x, 1, 10, 3, 11, 5, 6);
        Net.take(x, 0, 2, 3);
        Net.link(x, 0, 1);
        d.due("1 has", Net.active(x, 1) + " | " + Net.passive(x, 1), "5 6 0 | 10 3 11");
        x.coin(2);
        d.due("mix(0)", x.mix(0), 1);
        Net.must(x, 7, 0, 1);
        d.due("MIXED", Net.letter(x, x.told(2) - 1), "8 1>0 0 0 [11 10 3]");
        Net.must(x, 8, 1, 0);
        d.due("0 has, 3 is not NOTED", Net.active(x, 0) + " | " + Net.passive(x, 0), "2 3 1 | 11 10");
    }

    @Says("8 MIXED: LIST is TAKEN: each of it is NOTED, in order.")
    static void mixedIsNotedInAFullPassiveView(Due d) {
        ViewBroadcast x = Net.walking(1, 0, 4);
        x.sizes(3, 2);
        Net.with(x, 16);
        Net.take(x, 1, 10, 3, 11, 5, 6);
        Net.take(x, 0, 12, 13, 2, 3);
        Net.link(x, 0, 1);
        x.coin(2);
        x.mix(0);
        Net.must(x, 7, 0, 1);
        d.due("MIXED", Net.letter(x, x.told(2) - 1), "8 1>0 0 0 [3 11]");
        d.due("0 has", Net.active(x, 0) + " | " + Net.passive(x, 0), "2 3 1 | 12 13");
        Net.must(x, 8, 1, 0);
        d.due("11 is NOTED, 12 leaves by COIN 2", Net.passive(x, 0), "13 11");
    }

    @Says("8 MIXED: LIST is TAKEN: each of it is NOTED, in order.")
    static void mixedWithAnEmptyListNotesNone(Due d) {
        ViewBroadcast x = mixTo1(Net.walking(1, 0, 4));
        Net.must(x, 7, 0, 1);
        d.due("MIXED", x.deliver(0), 8);
        d.due("0 has", Net.active(x, 0) + " | " + Net.passive(x, 0), "1 | ");
        d.due("no LETTER", x.told(2), 0);
    }

    // ---- LETTER 12

    @Says("12 STOPPED: s leaves both views; if it is the one ASKED, none is; MEND.")
    static void stoppedOneLeavesTheActiveViewAndIsMended(Due d) {
        ViewBroadcast x = knowing();
        Net.take(x, 0, 10);
        x.stop(10);
        d.due("0 has", Net.active(x, 0), "9 10");
        Net.must(x, 12, 10, 0);
        d.due("0 has, it is not NOTED", Net.active(x, 0) + " | " + Net.passive(x, 0), "9 | 1 2 3");
        d.due("0 MENDS", x.about(0, 1), 3);
    }

    @Says("12 STOPPED: s leaves both views; if it is the one ASKED, none is; MEND.")
    static void stoppedOneThatIsAskedLeavesThePassiveViewAndIsMended(Due d) {
        ViewBroadcast x = knowing();
        makeMend(x, 7);
        d.due("0 ASKS 3", x.about(0, 1), 3);
        x.stop(3);
        d.due("ASKING goes", Net.count(x, 5), 0);
        Net.must(x, 12, 3, 0);
        d.due("0 has", Net.active(x, 0) + " | " + Net.passive(x, 0), "9 | 1 2");
        d.due("0 ASKS the next", x.about(0, 1), 1);
        d.due("3 does not count as ASKED", x.about(0, 2), 0);
    }

    @Says("12 STOPPED: s leaves both views; if it is the one ASKED, none is; MEND.")
    static void stoppedOneThatIsNotAskedLeavesTheAskingAsItIs(Due d) {
        ViewBroadcast x = knowing();
        makeMend(x, 7);
        makeMend(x, 8);
        d.due("8 stopped: 0 ASKS 3 still", x.about(0, 1), 3);
        makeMend(x, 1);
        d.due("1 stopped: 0 ASKS 3 still", x.about(0, 1), 3);
        d.due("one ASKING", Net.count(x, 5), 1);
    }

    /** 0, which does not know 9, TOOK its LIST 9, 1, 2; 9 has stopped, so MIXED to it is a LETTER 12. */
    private static ViewBroadcast mixedByOneThatStopped(int p) {
        ViewBroadcast x = Net.walking(2, 0, 4);
        x.sizes(3, p);
        Net.with(x, 10);
        Net.take(x, 9, 1, 2);
        Net.link(x, 9, 8);
        Net.link(x, 8, 0);
        x.coin(2);
        x.mix(9);
        Net.must(x, 7, 9, 8);
        x.stop(9);
        Net.must(x, 7, 8, 0);
        return x;
    }

    @Says("12 STOPPED: s leaves both views; if it is the one ASKED, none is; MEND.")
    static void stoppedOneInThePassiveViewAloneLeavesItAndIsMended(Due d) {
        ViewBroadcast x = mixedByOneThatStopped(5);
        d.due("0 has", Net.active(x, 0) + " | " + Net.passive(x, 0), "8 | 9 1 2");
        d.due("0 ASKS none", x.about(0, 1), -6);
        d.due("MIXED to 9 is a LETTER 12", Net.letter(x, x.told(2) - 1), "12 9>0 0 0");
        Net.must(x, 12, 9, 0);
        d.due("0 has", Net.active(x, 0) + " | " + Net.passive(x, 0), "8 | 1 2");
        d.due("0 MENDS", x.about(0, 1), 1);
    }

    @Says("12 STOPPED: s leaves both views; if it is the one ASKED, none is; MEND.")
    static void stoppedOneInNeitherViewIsMendedToo(Due d) {
        ViewBroadcast x = mixedByOneThatStopped(2);
        d.due("9 was NOTED, and left for 2", Net.active(x, 0) + " | " + Net.passive(x, 0), "8 | 1 2");
        d.due("0 ASKS none", x.about(0, 1), -6);
        Net.must(x, 12, 9, 0);
        d.due("0 has", Net.active(x, 0) + " | " + Net.passive(x, 0), "8 | 1 2");
        d.due("0 MENDS", x.about(0, 1), 1);
    }

    // ---- MIX begun by a NODE

    /** A MIX begun by 0 with so many in its views: ACTIVE ones are 1 and on, PASSIVE ones 11 and on. */
    private static String mixOf(int a, int active, int passive, int... coins) {
        ViewBroadcast x = Net.sized(a, 8, 16);
        for (int n = 0; n < passive; n++) {
            Net.take(x, 0, 11 + n);
        }
        for (int n = 1; n <= (passive > 0 ? a : active); n++) {
            Net.take(x, 0, n);
        }
        Net.coins(x, coins);
        int to = x.mix(0);
        String views = Net.active(x, 0) + " | " + Net.passive(x, 0) + " : ";
        return to < 0 ? views + to : views + Net.letter(x, x.told(2) - 1) + " : " + x.told(7);
    }

    @Says("MIX begun by a NODE: one of its ACTIVE view is DRAWN (none: NO): LETTER 7 to it, x itself, y LONG")
    static void mixBegunOfAnEmptyActiveViewIsNo(Due d) {
        d.due("none linked", mixOf(3, 0, 0, 1, 1), " |  : -5");
        d.due("one linked", mixOf(3, 1, 0, 1, 1), "1 |  : 7 0>1 0 4 [0] : 0");
    }

    @Says("one of its ACTIVE view is DRAWN (none: NO): LETTER 7 to it, x itself, y LONG")
    static void mixBegunOfAPassiveViewAloneIsNo(Due d) {
        ViewBroadcast x = parting();
        Net.must(x, 4, 0, 1);
        d.due("1 has", Net.active(x, 1) + " | " + Net.passive(x, 1), " | 0");
        int before = x.told(2);
        d.due("mix(1)", x.mix(1), -5);
        d.due("no LETTER", x.told(2), before);
    }

    @Says("LIST: itself, up to 2 of the others of the ACTIVE view")
    static void mixBegunListsUpTo2OfTheOthers(Due d) {
        d.due("of 1 other", mixOf(5, 2, 0, 1, 9), "1 2 |  : 7 0>2 0 4 [0 1] : 1");
        d.due("of 2 others", mixOf(5, 3, 0, 1, 1, 9), "1 2 3 |  : 7 0>2 0 4 [0 3 1] : 2");
        d.due("of 3 others", mixOf(5, 4, 0, 1, 1, 1, 9), "1 2 3 4 |  : 7 0>2 0 4 [0 3 4] : 3");
        d.due("of 4 others", mixOf(5, 5, 0, 4, 3, 2, 9), "1 2 3 4 5 |  : 7 0>5 0 4 [0 4 3] : 3");
    }

    @Says("up to 2 of the PASSIVE view, each DRAWN from those that are left, in order.")
    static void mixBegunListsUpTo2OfThePassiveView(Due d) {
        d.due("of none", mixOf(2, 2, 0, 0, 9), "1 2 |  : 7 0>1 0 4 [0 2] : 1");
        d.due("of 1", mixOf(2, 2, 1, 0, 9), "1 2 | 11 : 7 0>1 0 4 [0 2 11] : 1");
        d.due("of 2", mixOf(2, 2, 2, 0, 1, 9), "1 2 | 11 12 : 7 0>1 0 4 [0 2 12 11] : 2");
        d.due("of 3", mixOf(2, 2, 3, 0, 1, 1, 9), "1 2 | 11 12 13 : 7 0>1 0 4 [0 2 12 13] : 3");
        d.due("of 5", mixOf(2, 2, 5, 0, 4, 3, 9), "1 2 | 11 12 13 14 15 : 7 0>1 0 4 [0 2 15 14] : 3");
    }

    @Says("up to 2 of the PASSIVE view, each DRAWN from those that are left, in order.")
    static void mixBegunListsNode0Too(Due d) {
        ViewBroadcast x = Net.sized(2, 5, 16);
        Net.take(x, 15, 1, 0, 3, 2);
        d.due("mix(15)", x.mix(15), 3);
        d.due("of the PASSIVE view", Net.letter(x, x.told(2) - 1), "7 15>3 15 4 [15 2 1 0]");
        ViewBroadcast y = Net.of(16);
        Net.take(y, 15, 3, 0, 2);
        d.due("mix(15)", y.mix(15), 3);
        d.due("of the ACTIVE view", Net.letter(y, y.told(2) - 1), "7 15>3 15 4 [15 0 2]");
    }

    // ---- what no run of calls can bring about

    @Says({"(not itself, not if it is there)", "(x the joiner, y steps): if x is r: nothing.", "(if x is not r)",
        "7 MIX (x who began, y steps, LIST)"})
    static void inNoRunIsANodeInItsOwnViewsOrALetterBackWithWhoBegan(Due d) {
        for (int run = 0; run < 60; run++) {
            ViewBroadcast x = Net.walking(1 + run % 6, run % 2, 1 + run % 3);
            x.sizes(2 + run % 4, 2 + run % 7);
            Net.coins(Net.with(x, 5 + run % 12), run, run * 7, 3, 1, 2, 0, 5);
            int nodes = x.told(0);
            for (int i = 0; i < 60; i++) {
                x.join(i * (run + 3) % nodes, i * 5 % nodes);
                x.go(i % 6);
                x.mix((i + run) % nodes);
                d.due("MIX or WALK to its own x, run " + run, ownX(x), 0);
            }
            for (int n = 0; n < nodes; n++) {
                d.due("itself in a view, run " + run, x.how(n, n), 0);
            }
        }
    }

    private static int ownX(ViewBroadcast x) {
        int count = 0;
        for (int i = 0; i < x.told(2); i++) {
            boolean walks = x.letter(i, 2) == 2 || x.letter(i, 2) == 7;
            count += walks && x.letter(i, 3) == x.letter(i, 1) ? 1 : 0;
        }
        return count;
    }
}
