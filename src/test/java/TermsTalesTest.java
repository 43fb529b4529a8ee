/** The document's 'Terms', part 3: TALES, LETTERS 9 to 11, the TICK. */
public final class TermsTalesTest {
    public static void main(String[] args) {
        Sentences.run(TermsTalesTest.class);
    }

    /** 0: [1, 2], 1: [0, 2], 2: [0, 1]; 1 and 2 are LAZY to each other. TALE 0 is HEARD by all. */
    private static ViewBroadcast lazy(ViewBroadcast x) {
        Net.triangle(x);
        x.tale(0);
        x.go(50);
        return x;
    }

    /** lazy(), and 2 MISSES TALE 1, of which 1 told. */
    private static ViewBroadcast missing(ViewBroadcast x) {
        lazy(x);
        x.tale(0);
        Net.must(x, 9, 0, 1);
        Net.must(x, 10, 1, 2);
        return x;
    }

    /** Each of 0 to 3 has the others; those of 1, 2, 3 are LAZY to each other. TALE 0 is HEARD by all. */
    private static ViewBroadcast four(ViewBroadcast x) {
        Net.triangle(x);
        x.node();
        x.join(3, 0);
        x.go(50);
        x.tale(0);
        x.go(50);
        return x;
    }

    /** four(), and 3 MISSES TALE 1, of which 2, then 1 told, all at TIME 0. */
    private static ViewBroadcast toldByTwo(ViewBroadcast x) {
        four(x);
        x.tale(0);
        Net.must(x, 9, 0, 1);
        Net.must(x, 9, 0, 2);
        Net.must(x, 10, 2, 3);
        Net.must(x, 10, 1, 3);
        return x;
    }

    private static ViewBroadcast waiting(int wait) {
        return Net.walking(4, 2, wait);
    }

    // ---- TALES

    @Says("TALES, 24 at most, numbered from 0 on")
    static void tales24AtMostNumberedFrom0(Due d) {
        ViewBroadcast x = Net.of(2);
        d.due("spread(0) ahead of the first", x.spread(0), -1);
        for (int t = 0; t < 24; t++) {
            d.due("tale, the " + (t + 1) + "th", x.tale(t % 2), t);
        }
        d.due("tale, the 25th", x.tale(0), -4);
        d.due("told(4)", x.told(4), 24);
        d.due("spread(23)", x.spread(23), 1);
        d.due("spread(24)", x.spread(24), -1);
        d.due("about(0, 3)", x.about(0, 3), 12);
    }

    @Says("begin at a NODE, which HEARS it with HOPS 0.")
    static void taleBeginsAtANodeThatHearsItWithHops0(Due d) {
        ViewBroadcast x = Net.pair();
        x.tale(1);
        d.due("heard(1, 0)", x.heard(1, 0), 0);
        d.due("heard(0, 0)", x.heard(0, 0), -6);
        d.due("TELL with HOPS and 1", Net.row(x), "9 1>0 0 1");
    }

    @Says("begin at a NODE, which HEARS it with HOPS 0.")
    static void lastTaleIsToldAsTheFirst(Due d) {
        ViewBroadcast x = Net.pair();
        for (int t = 0; t < 24; t++) {
            x.tale(0);
        }
        d.due("the first", Net.letter(x, 0), "9 0>1 0 1");
        d.due("the last", Net.letter(x, 23), "9 0>1 23 1");
        x.go(24);
        d.due("HEARD", x.about(1, 3), 24);
        d.due("heard(1, 23)", x.heard(1, 23), 1);
    }

    // ---- HEAR

    /** 0 has 1 and 3, LAZY, and 2, 4, 9, EAGER; HEARD TALE 0 of 9. */
    private static ViewBroadcast mixed() {
        ViewBroadcast x = Net.sized(5, 5, 10);
        for (int n = 1; n <= 4; n++) {
            Net.take(x, 0, n);
            Net.must(x, 3, 0, n);
        }
        Net.link(x, 9, 1, 3, 0);
        Net.must(x, 2, 9, 1);
        Net.must(x, 2, 1, 0);
        Net.must(x, 2, 9, 1);
        Net.must(x, 2, 9, 3);
        x.tale(9);
        Net.must(x, 9, 9, 0);
        Net.must(x, 9, 9, 1);
        Net.must(x, 9, 1, 0);
        Net.must(x, 9, 9, 3);
        Net.must(x, 9, 3, 0);
        return x;
    }

    @Says("To HEAR one: it is HEARD; with the sender (none at the beginning): to each other EAGER one of the ACTIVE view, in order, LETTER 9, x the TALE, y HOPS and 1; then to each other LAZY one LETTER 10, x the TALE.")
    static void hearingTellsEagerOnesThenLazyOnesInOrder(Due d) {
        ViewBroadcast x = mixed();
        d.due("0 has", Net.active(x, 0), "1~ 2 3~ 4 9");
        int before = x.told(2);
        x.tale(0);
        d.due("9 to EAGER ones, 10 to LAZY ones", Net.row(x, before),
            "9 0>2 1 1, 9 0>4 1 1, 9 0>9 1 1, 10 0>1 1 0, 10 0>3 1 0");
    }

    @Says("with the sender (none at the beginning): to each other EAGER one of the ACTIVE view")
    static void hearingTellsNotTheSender(Due d) {
        ViewBroadcast x = mixed();
        x.tale(9);
        int before = x.told(2);
        Net.must(x, 9, 9, 0);
        d.due("not to 9", Net.row(x, before - 1), "9 0>2 1 2, 9 0>4 1 2, 10 0>1 1 0, 10 0>3 1 0");
    }

    @Says("To HEAR one: it is HEARD; with the sender (none at the beginning)")
    static void hearingOfOneThatHasNoOtherTellsNobody(Due d) {
        ViewBroadcast x = Net.pair();
        x.tale(0);
        x.go(1);
        d.due("1 HEARD it, and has the sender alone", x.heard(1, 0), 1);
        d.due("no LETTER", x.told(2), 0);
        ViewBroadcast alone = Net.of(1);
        alone.tale(0);
        d.due("HEARD by one alone", alone.heard(0, 0), 0);
        d.due("no LETTER", alone.told(2), 0);
    }

    @Says("It is MISSED no more.")
    static void whatIsHeardIsMissedNoMore(Due d) {
        ViewBroadcast x = missing(waiting(1));
        d.due("2 MISSES one", x.about(2, 4), 1);
        Net.must(x, 9, 0, 2);
        d.due("2 HEARD it", x.heard(2, 1), 1);
        d.due("2 MISSES none", x.about(2, 4), 0);
        d.due("told by none", x.missed(2, 1), 0);
        x.tick();
        d.due("no CHOICE", Net.count(x, 11), 0);
    }

    // ---- LETTER 9

    @Says("9 TELL: s is not in the ACTIVE view: nothing.")
    static void tellOfOneNotInTheActiveViewIsNothing(Due d) {
        ViewBroadcast x = Net.sized(2, 4, 4);
        Net.link(x, 0, 1);
        x.tale(0);
        Net.take(x, 1, 2, 3);
        d.due("1 has", Net.active(x, 1) + " | " + Net.passive(x, 1), "2 3 | 0");
        int before = x.told(2);
        Net.must(x, 9, 0, 1);
        d.due("1 HEARD it not", x.heard(1, 0), -6);
        d.due("1 has", Net.active(x, 1) + " | " + Net.passive(x, 1), "2 3 | 0");
        d.due("no LETTER", x.told(2), before - 1);
    }

    @Says("9 TELL: s is not in the ACTIVE view: nothing.")
    static void tellOfAStrangerOfWhatIsHeardIsNothing(Due d) {
        ViewBroadcast x = Net.sized(2, 4, 4);
        Net.link(x, 0, 1);
        x.tale(0);
        Net.must(x, 9, 0, 1);
        x.tale(0);
        Net.take(x, 1, 2, 3);
        int before = x.told(2);
        Net.must(x, 9, 0, 1);
        d.due("no CHOICE", Net.count(x, 11), 0);
        d.due("no LETTER", x.told(2), before - 1);
        d.due("HEARD: the first alone", x.about(1, 3), 1);
    }

    @Says("If x is not HEARD: s is EAGER; it HEARS it with HOPS y.")
    static void firstTellIsHeardWithHopsY(Due d) {
        ViewBroadcast x = Net.of(16);
        for (int n = 1; n < 16; n++) {
            Net.take(x, n - 1, n);
            Net.must(x, 3, n - 1, n);
        }
        x.tale(0);
        for (int n = 1; n < 16; n++) {
            d.due("y on the way to " + n, x.letter(Net.find(x, 9, n - 1, n), 4), n);
            Net.must(x, 9, n - 1, n);
            d.due("heard(" + n + ", 0)", x.heard(n, 0), n);
        }
        d.due("spread(0)", x.spread(0), 16);
    }

    @Says("If x is not HEARD: s is EAGER; it HEARS it with HOPS y.")
    static void firstTellMakesALazySenderEager(Due d) {
        ViewBroadcast x = Net.triangle();
        x.tale(0);
        Net.must(x, 9, 0, 1);
        Net.must(x, 9, 0, 2);
        Net.must(x, 9, 1, 2);
        d.due("1 is LAZY to 2, 2 EAGER to 1", Net.active(x, 2) + ", " + Net.active(x, 1), "0 1~, 0 2");
        x.tale(1);
        int before = x.told(2);
        d.due("TELL", Net.letter(x, Net.find(x, 9, 1, 2)), "9 1>2 1 1");
        Net.must(x, 9, 1, 2);
        d.due("1 is EAGER to 2", Net.active(x, 2), "0 1");
        d.due("HEARD", x.heard(2, 1), 1);
        d.due("told to 0 alone", Net.row(x, before - 1), "9 2>0 1 2");
    }

    @Says("Else s is LAZY, LETTER 11 to s, y 0.")
    static void secondTellMakesTheSenderLazy(Due d) {
        ViewBroadcast x = Net.triangle();
        x.tale(0);
        Net.must(x, 9, 0, 1);
        Net.must(x, 9, 0, 2);
        int before = x.told(2);
        Net.must(x, 9, 1, 2);
        d.due("1 is LAZY to 2", Net.active(x, 2), "0 1~");
        d.due("CHOICE", Net.row(x, before - 1), "11 2>1 0 0");
        d.due("HOPS are those of the first", x.heard(2, 0), 1);
    }

    @Says("Else s is LAZY, LETTER 11 to s, y 0.")
    static void secondTellWithLessHopsLeavesThoseOfTheFirst(Due d) {
        ViewBroadcast x = Net.triangle();
        x.tale(0);
        Net.must(x, 9, 0, 1);
        Net.must(x, 9, 1, 2);
        d.due("with 2 HOPS", x.heard(2, 0), 2);
        Net.must(x, 9, 0, 2);
        d.due("TELL with 1 came later", x.heard(2, 0), 2);
        d.due("0 is LAZY", Net.active(x, 2), "0~ 1");
    }

    // ---- LETTER 10

    @Says("10 NOTE: s is not in the ACTIVE view, or x is HEARD: nothing.")
    static void noteOfOneNotInTheActiveViewIsNothing(Due d) {
        ViewBroadcast x = Net.with(lazy(new ViewBroadcast()), 2);
        x.coin(1);
        x.tale(0);
        Net.must(x, 9, 0, 1);
        Net.take(x, 2, 3, 4);
        d.due("2 has", Net.active(x, 2) + " | " + Net.passive(x, 2), "0 3 4 | 1");
        int before = x.told(2);
        Net.must(x, 10, 1, 2);
        d.due("2 MISSES none", x.about(2, 4), 0);
        d.due("told by none", x.missed(2, 1), 0);
        d.due("no LETTER", x.told(2), before - 1);
    }

    @Says("10 NOTE: s is not in the ACTIVE view, or x is HEARD: nothing.")
    static void noteOfWhatIsHeardIsNothing(Due d) {
        ViewBroadcast x = lazy(waiting(1));
        x.tale(0);
        Net.must(x, 9, 0, 1);
        Net.must(x, 9, 0, 2);
        int before = x.told(2);
        Net.must(x, 10, 1, 2);
        d.due("2 MISSES none", x.about(2, 4), 0);
        d.due("told by none", x.missed(2, 1), 0);
        d.due("no LETTER", x.told(2), before - 1);
        d.due("1 is LAZY still", Net.active(x, 2), "0 1~");
        x.tick();
        d.due("no CHOICE", Net.count(x, 11), 0);
    }

    @Says("Else x is MISSED (if not yet: its hour is TIME and WAIT)")
    static void theHourIsTimeAndWait(Due d) {
        for (int wait : new int[] {1, 2, 20}) {
            for (int time = 0; time < 3; time++) {
                ViewBroadcast x = lazy(waiting(wait));
                for (int i = 0; i < time; i++) {
                    x.tick();
                }
                x.tale(0);
                Net.must(x, 9, 0, 1);
                Net.must(x, 10, 1, 2);
                d.due("2 MISSES one", x.about(2, 4), 1);
                for (int i = 1; i < wait; i++) {
                    x.tick();
                }
                d.due("no CHOICE ahead of its hour", Net.count(x, 11), 0);
                x.tick();
                d.due("CHOICE at its hour", Net.letter(x, x.told(2) - 1), "11 2>1 1 1");
                d.due("TIME", x.told(5), time + wait);
            }
        }
    }

    @Says("Else x is MISSED (if not yet: its hour is TIME and WAIT)")
    static void theHourIsThatOfTheFirstNote(Due d) {
        ViewBroadcast x = four(waiting(3));
        x.tale(0);
        Net.must(x, 9, 0, 1);
        Net.must(x, 9, 0, 2);
        Net.must(x, 10, 2, 3);
        x.tick();
        x.tick();
        Net.must(x, 10, 1, 3);
        d.due("no CHOICE", Net.count(x, 11), 0);
        x.tick();
        d.due("CHOICE at 3", Net.letter(x, x.told(2) - 1), "11 3>2 1 1");
    }

    @Says("s comes last of those who told of it (once).")
    static void thoseWhoToldAreAskedInTheOrderInWhichTheyTold(Due d) {
        ViewBroadcast x = toldByTwo(waiting(1));
        d.due("two told", x.missed(3, 1), 2);
        x.tick();
        d.due("2 told first", Net.letter(x, x.told(2) - 1), "11 3>2 1 1");
        x.tick();
        d.due("1 told last", Net.letter(x, x.told(2) - 1), "11 3>1 1 1");
        ViewBroadcast y = four(waiting(1));
        y.tale(0);
        Net.must(y, 9, 0, 1);
        Net.must(y, 9, 0, 2);
        Net.must(y, 10, 1, 3);
        Net.must(y, 10, 2, 3);
        y.tick();
        d.due("1 told first", Net.letter(y, y.told(2) - 1), "11 3>1 1 1");
    }

    @Says("s comes last of those who told of it (once).")
    static void oneToldAfterAllWereAskedIsTheFirst(Due d) {
        ViewBroadcast x = four(waiting(4));
        x.tale(0);
        Net.must(x, 9, 0, 1);
        Net.must(x, 9, 0, 2);
        Net.must(x, 10, 1, 3);
        for (int i = 0; i < 5; i++) {
            x.tick();
        }
        d.due("1 was asked", x.missed(3, 1), 0);
        d.due("MISSED still", x.about(3, 4), 1);
        Net.must(x, 10, 2, 3);
        d.due("2 told", x.missed(3, 1), 1);
        x.tick();
        d.due("the hour is two TICKS behind the first CHOICE", Net.letter(x, x.told(2) - 1), "11 3>2 1 1");
    }

    // ---- LETTER 11

    @Says("11 CHOICE: s is not in the ACTIVE view: nothing.")
    static void choiceOfOneNotInTheActiveViewIsNothing(Due d) {
        ViewBroadcast x = Net.with(missing(waiting(1)), 2);
        x.tick();
        d.due("CHOICE", Net.has(x, 11, 2, 1) ? 1 : 0, 1);
        x.coin(1);
        Net.take(x, 1, 3, 4);
        d.due("1 has", Net.active(x, 1) + " | " + Net.passive(x, 1), "0 3 4 | 2");
        int before = x.told(2);
        Net.must(x, 11, 2, 1);
        d.due("no TELL", x.told(2), before - 1);
        d.due("1 has", Net.active(x, 1) + " | " + Net.passive(x, 1), "0 3 4 | 2");
    }

    @Says("11 CHOICE: s is not in the ACTIVE view: nothing.")
    static void choiceWithY0OfOneNotInTheActiveViewIsNothing(Due d) {
        ViewBroadcast x = Net.with(Net.triangle(), 2);
        x.tale(0);
        x.go(4);
        d.due("CHOICES", Net.row(x), "11 2>1 0 0, 11 1>2 0 0");
        x.coin(1);
        Net.take(x, 1, 3, 4);
        d.due("1 dropped 2", Net.active(x, 1) + " | " + Net.passive(x, 1), "0 3 4 | 2");
        int before = x.told(2);
        x.keep(0);
        Net.must(x, 11, 2, 1);
        d.due("1 has", Net.active(x, 1) + " | " + Net.passive(x, 1), "0 3 4 | 2");
        d.due("no NODE is another one", x.differs(0), -6);
        d.due("no LETTER", x.told(2), before - 1);
        Net.take(x, 1, 2);
        d.due("2 is EAGER when it is ADDED", Net.active(x, 1), "0 4 2");
    }

    @Says("y 0: s is LAZY.")
    static void choiceWithY0MakesLazy(Due d) {
        ViewBroadcast x = Net.of(3);
        Net.link(x, 0, 2, 1);
        x.tale(0);
        Net.must(x, 9, 0, 1);
        Net.link(x, 1, 2);
        Net.must(x, 2, 0, 2);
        Net.must(x, 9, 0, 2);
        Net.must(x, 9, 2, 1);
        d.due("1 has", Net.active(x, 1), "0 2~");
        d.due("2 has", Net.active(x, 2), "0 1");
        int before = x.told(2);
        Net.must(x, 11, 1, 2);
        d.due("2 has", Net.active(x, 2), "0 1~");
        d.due("no LETTER", x.told(2), before - 1);
    }

    @Says("y 1: s is EAGER; if x is HEARD: LETTER 9 to s, x, y what HOPS it was HEARD with and 1.")
    static void choiceWithY1MakesEagerAndIsAnsweredWithATell(Due d) {
        ViewBroadcast x = missing(waiting(1));
        d.due("1 has", Net.active(x, 1), "0 2~");
        x.tick();
        int before = x.told(2);
        Net.must(x, 11, 2, 1);
        d.due("1 has", Net.active(x, 1), "0 2");
        d.due("TELL with HOPS 1 and 1", Net.row(x, before - 1), "9 1>2 1 2");
        Net.must(x, 9, 1, 2);
        d.due("HEARD so", x.heard(2, 1), 2);
        d.due("MISSED no more", x.about(2, 4), 0);
    }

    @Says("y 1: s is EAGER; if x is HEARD: LETTER 9 to s, x, y what HOPS it was HEARD with and 1.")
    static void choiceToTheOneWhereTheTaleBeganIsAnsweredWithHops1(Due d) {
        ViewBroadcast x = lazy(waiting(1));
        x.tale(1);
        Net.must(x, 10, 1, 2);
        x.tick();
        Net.must(x, 11, 2, 1);
        d.due("TELL with HOPS 0 and 1", Net.letter(x, x.told(2) - 1), "9 1>2 1 1");
    }

    // ---- TICK

    @Says("A TICK: TIME is one more")
    static void aTickMakesTimeOneMore(Due d) {
        ViewBroadcast x = new ViewBroadcast();
        for (int t = 1; t <= 300; t++) {
            d.due("tick()", x.tick(), t);
        }
        d.due("told(5)", x.told(5), 300);
    }

    @Says("for each LIVE NODE, by numbers, each TALE that it MISSES whose hour is TIME at most")
    static void aTickGoesThroughTheNodesByNumbers(Due d) {
        ViewBroadcast x = four(waiting(2));
        x.tale(0);
        Net.must(x, 9, 0, 1);
        Net.must(x, 10, 1, 3);
        Net.must(x, 10, 1, 2);
        x.tick();
        int before = x.told(2);
        x.tick();
        d.due("2, then 3", Net.row(x, before), "11 2>1 1 1, 11 3>1 1 1");
    }

    @Says("for each LIVE NODE, by numbers, each TALE that it MISSES whose hour is TIME at most")
    static void aTickIsForNode0Too(Due d) {
        ViewBroadcast x = waiting(1);
        Net.triangle(x);
        x.tale(1);
        x.go(50);
        x.tale(1);
        Net.must(x, 9, 1, 2);
        Net.must(x, 10, 2, 0);
        int before = x.told(2);
        x.tick();
        d.due("CHOICE of 0", Net.row(x, before), "11 0>2 1 1");
    }

    @Says("for each LIVE NODE, by numbers, each TALE that it MISSES whose hour is TIME at most")
    static void aTickIsForTale0Too(Due d) {
        ViewBroadcast x = Net.with(waiting(1), 4);
        for (int n = 1; n < 4; n++) {
            x.join(n, 0);
            x.go(50);
        }
        x.tale(0);
        x.tale(3);
        for (int[] pair : new int[][] {{3, 1}, {3, 2}, {1, 2}, {2, 1}, {0, 1}}) {
            Net.must(x, 9, pair[0], pair[1]);
        }
        Net.must(x, 11, 1, 2);
        Net.must(x, 10, 1, 2);
        d.due("2 MISSES TALE 0", x.missed(2, 0), 1);
        int before = x.told(2);
        x.tick();
        d.due("CHOICE", Net.row(x, before), "11 2>1 0 1");
    }

    @Says("for each LIVE NODE, by numbers, each TALE that it MISSES whose hour is TIME at most")
    static void aTickGoesThroughTheTalesByNumbers(Due d) {
        ViewBroadcast x = four(waiting(1));
        x.tale(1);
        x.tale(2);
        Net.must(x, 10, 2, 3);
        Net.must(x, 10, 1, 3);
        d.due("3 MISSES two", x.about(3, 4), 2);
        int before = x.told(2);
        x.tick();
        d.due("1, then 2", Net.row(x, before), "11 3>1 1 1, 11 3>2 2 1");
    }

    @Says("for each LIVE NODE, by numbers, each TALE that it MISSES whose hour is TIME at most")
    static void aTickLeavesATaleWhoseHourIsLater(Due d) {
        ViewBroadcast x = four(waiting(2));
        x.tale(1);
        Net.must(x, 10, 1, 3);
        x.tick();
        x.tale(2);
        Net.must(x, 10, 2, 3);
        int before = x.told(2);
        x.tick();
        d.due("TALE 1 alone", Net.row(x, before), "11 3>1 1 1");
        d.due("TALE 2 is told of still", x.missed(3, 2), 1);
        x.tick();
        d.due("then TALE 2; 1 is MISSED no more", Net.row(x, before + 1), "11 3>2 2 1");
        d.due("3 MISSES one", x.about(3, 4), 1);
    }

    @Says("for each LIVE NODE, by numbers, each TALE that it MISSES whose hour is TIME at most")
    static void aTickDoesNothingForOneThatStopped(Due d) {
        ViewBroadcast x = missing(waiting(1));
        x.stop(2);
        int before = x.told(2);
        for (int i = 0; i < 5; i++) {
            x.tick();
        }
        d.due("no LETTER", x.told(2), before);
        d.due("it MISSES it still", x.about(2, 4), 1);
        d.due("and was told of it", x.missed(2, 1), 1);
    }

    @Says("if none who told of it is left, it is MISSED no more")
    static void aTickEndsTheMissingIfNoneIsLeft(Due d) {
        ViewBroadcast x = missing(waiting(1));
        x.tick();
        d.due("1 is asked, none is left", x.missed(2, 1), 0);
        d.due("MISSED still", x.about(2, 4), 1);
        int before = x.told(2);
        x.tick();
        d.due("MISSED no more", x.about(2, 4), 0);
        d.due("no LETTER", x.told(2), before);
    }

    @Says("if none who told of it is left, it is MISSED no more")
    static void whatIsMissedNoMoreCanBeMissedAnewWithANewHour(Due d) {
        ViewBroadcast x = four(waiting(2));
        x.tale(0);
        Net.must(x, 9, 0, 1);
        Net.must(x, 9, 0, 2);
        Net.must(x, 10, 1, 3);
        for (int i = 0; i < 3; i++) {
            x.tick();
        }
        d.due("MISSED no more", x.about(3, 4), 0);
        Net.must(x, 10, 2, 3);
        d.due("MISSED anew", x.about(3, 4), 1);
        int before = x.told(2);
        x.tick();
        d.due("no CHOICE after one TICK", x.told(2), before);
        x.tick();
        d.due("CHOICE after two", Net.row(x, before), "11 3>2 1 1");
    }

    @Says("else the first of them goes (from these): it is EAGER, LETTER 11 to it, x the TALE, y 1")
    static void aTickAsksTheFirstWhoGoesAndIsEager(Due d) {
        ViewBroadcast x = toldByTwo(waiting(1));
        d.due("3 has", Net.active(x, 3), "0 2~ 1~");
        int before = x.told(2);
        x.tick();
        d.due("CHOICE", Net.row(x, before), "11 3>2 1 1");
        d.due("2 is EAGER", Net.active(x, 3), "0 2 1~");
        d.due("one is left", x.missed(3, 1), 1);
    }

    @Says("the hour is TIME and half of WAIT (cut, at least 1).")
    static void theNextHourIsHalfOfWait(Due d) {
        int[] waits = {1, 2, 3, 4, 5, 19, 20}, halves = {1, 1, 1, 2, 2, 9, 10};
        for (int i = 0; i < waits.length; i++) {
            ViewBroadcast x = toldByTwo(waiting(waits[i]));
            d.due("TICKS until the first is asked", ticksUntil(x, 1), waits[i]);
            d.due("TICKS until the second is asked, WAIT " + waits[i], ticksUntil(x, 0), halves[i]);
            d.due("MISSED still", x.about(3, 4), 1);
            int ticks = 0;
            while (x.about(3, 4) == 1 && ticks < 30) {
                x.tick();
                ticks++;
            }
            d.due("TICKS until it is MISSED no more, WAIT " + waits[i], ticks, halves[i]);
        }
    }

    private static int ticksUntil(ViewBroadcast x, int left) {
        int ticks = 0;
        while (x.missed(3, 1) > left && ticks < 30) {
            x.tick();
            ticks++;
        }
        return ticks;
    }
}
