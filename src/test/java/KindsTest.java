/** The Terms: what a LETTER of each KIND does when it comes. */
public final class KindsTest {
    private static final Due D = new Due("KindsTest");

    public static void main(String[] args) {
        joinAndWelcome();
        walkEndsWhereOneIsLinked();
        walkGoesOn();
        partingIsMended();
        askingInNeed();
        refusalIsMended();
        askedOneStops();
        mixGoesOnAndIsAnswered();
        tellAndChoice();
        choiceMakesLazy();
        lettersOfStrangers();
        noteFromTwo();
        tellersLeave();
        D.end();
    }

    private static void joinAndWelcome() {
        ViewBroadcast x = new ViewBroadcast();
        x.sizes(2, 2);
        Net.with(x, 4);
        Net.star(x, 2);
        int before = x.told(2);
        x.join(3, 0);
        Net.bring(x, 1, 3, 0);
        D.due("one dropped, one WALK, one WELCOME", x.told(2) - before, 3);
        D.due("PARTING first", x.letter(before, 2) * 10 + x.letter(before, 1), 41);
        D.due("then WALK", x.letter(before + 1, 2) * 10 + x.letter(before + 1, 1), 22);
        D.due("x the joiner", x.letter(before + 1, 3), 3);
        D.due("then WELCOME", x.letter(before + 2, 2) * 10 + x.letter(before + 2, 1), 33);
        D.due("ACTIVE", Net.list(x, 0, 0), 0x34);
        D.due("PASSIVE", Net.list(x, 0, 1), 2);
        x.join(1, 0);
        D.due("a JOIN of a PASSIVE one", x.deliver(x.told(2) - 1), 1);
        D.due("ACTIVE", Net.list(x, 0, 0), 0x42);
        D.due("PASSIVE", Net.list(x, 0, 1), 3);
    }

    private static void walkEndsWhereOneIsLinked() {
        ViewBroadcast x = Net.pair();
        x.node();
        x.join(2, 0);
        x.go(1);
        D.due("WALK to 1", x.letter(0, 2) * 10 + x.letter(0, 1), 21);
        D.due("LONG steps", x.letter(0, 4), 4);
        D.due("it comes", x.deliver(0), 2);
        D.due("1 took the joiner", Net.list(x, 1, 0), 0x13);
        D.due("and welcomes it", x.letter(1, 2) * 100 + x.letter(1, 0) * 10 + x.letter(1, 1), 312);
        x.go(5);
        x.join(2, 0);
        x.go(1);
        D.due("a joiner who is there already: WALK", Net.count(x, 2), 1);
        D.due("and WELCOME", Net.count(x, 3), 1);
        D.due("0 as it was", Net.list(x, 0, 0), 0x23);
    }

    private static void walkGoesOn() {
        ViewBroadcast x = new ViewBroadcast();
        x.walks(2, 1, 4);
        Net.triangle(x);
        x.node();
        x.join(3, 0);
        x.go(1);
        D.due("WALK 0 to 1", Net.bring(x, 2, 0, 1), 2);
        D.due("1 did not take it", Net.list(x, 1, 0), 0x13);
        D.due("1 did not NOTE it", x.view(1, 1, -1), 0);
        int i = Net.find(x, 2, 1, 2);
        D.due("on to 2, y less 1", x.letter(i, 4), 1);
        D.due("x stays", x.letter(i, 3), 3);
        D.due("WALK 1 to 2", x.deliver(i), 2);
        D.due("2 NOTED it", Net.list(x, 2, 1), 4);
        i = Net.find(x, 2, 2, 0);
        D.due("on to 0, y 0", x.letter(i, 4), 0);
        D.due("WALK 2 to 0, 3 is there already", x.deliver(i), 2);
        D.due("0 as it was", Net.list(x, 0, 0), 0x234);
        D.due("one WELCOME in all", Net.count(x, 3), 1);
        D.due("WALK 0 to 2", Net.bring(x, 2, 0, 2), 2);
        D.due("WALK 2 to 1, y 1", x.letter(Net.find(x, 2, 2, 1), 4), 1);
        Net.bring(x, 2, 2, 1);
        D.due("1 NOTED it", Net.list(x, 1, 1), 4);
        Net.bring(x, 2, 1, 0);
        x.go(10);
        D.due("3 has 0 alone", Net.list(x, 3, 0), 1);
    }

    /** 0 has 2, 3 in its ACTIVE view, 1 in the PASSIVE one; 1 and 2 have 0, 3 not yet. */
    private static ViewBroadcast dropped() {
        ViewBroadcast x = new ViewBroadcast();
        x.sizes(2, 4);
        Net.with(x, 5);
        x.join(1, 0);
        x.go(2);
        x.join(2, 0);
        x.deliver(0);
        Net.bring(x, 3, 0, 2);
        x.join(3, 0);
        Net.bring(x, 1, 3, 0);
        return x;
    }

    private static void partingIsMended() {
        ViewBroadcast x = dropped();
        D.due("0 has", Net.list(x, 0, 0), 0x34);
        D.due("0 knows of", Net.list(x, 0, 1), 2);
        D.due("WALK comes ahead", Net.bring(x, 4, 0, 1), -5);
        Net.bring(x, 2, 0, 1);
        D.due("1 has", Net.list(x, 1, 0), 0x13);
        D.due("PARTING", Net.bring(x, 4, 0, 1), 4);
        D.due("1 has", Net.list(x, 1, 0), 3);
        D.due("1 knows of", Net.list(x, 1, 1), 1);
        D.due("1 ASKS", x.about(1, 1), 0);
        int i = Net.find(x, 5, 1, 0);
        D.due("not in need", x.letter(i, 3), 0);
        D.due("0 is full", x.deliver(i), 5);
        D.due("REFUSAL", Net.find(x, 6, 0, 1) >= 0 ? 1 : 0, 1);
        Net.bring(x, 6, 0, 1);
        D.due("1 ASKS none", x.about(1, 1), -6);
        D.due("the mending ended: forgotten", x.about(1, 2), 0);
    }

    /** 1 had 0 alone, and 0, whose view is full, dropped it: 1 ASKS 0. */
    private static ViewBroadcast inNeed() {
        ViewBroadcast x = new ViewBroadcast();
        x.sizes(2, 4);
        x.coin(0);
        x.coin(1);
        Net.with(x, 6);
        for (int joiner : new int[] {2, 3, 1}) {
            x.join(joiner, 0);
            Net.bring(x, 1, joiner, 0);
        }
        Net.bring(x, 3, 0, 1);
        x.join(4, 0);
        Net.bring(x, 1, 4, 0);
        Net.bring(x, 4, 0, 1);
        return x;
    }

    private static void askingInNeed() {
        ViewBroadcast x = inNeed();
        D.due("0 has", Net.list(x, 0, 0), 0x45);
        D.due("0 knows of", Net.list(x, 0, 1), 0x32);
        D.due("1 has none", x.view(1, 0, -1), 0);
        D.due("1 knows of", Net.list(x, 1, 1), 1);
        D.due("1 ASKS", x.about(1, 1), 0);
        int i = Net.find(x, 5, 1, 0);
        D.due("in need: x 1", x.letter(i, 3), 1);
        D.due("it comes", x.deliver(i), 5);
        D.due("0 took it, though full", Net.list(x, 0, 0), 0x52);
        D.due("0 knows of", Net.list(x, 0, 1), 0x34);
        Net.bring(x, 3, 0, 1);
        D.due("1 has", Net.list(x, 1, 0), 1);
        D.due("1 knows of none", x.view(1, 1, -1), 0);
        D.due("1 ASKS none", x.about(1, 1), -6);
    }

    private static void askedOneStops() {
        ViewBroadcast x = inNeed();
        D.due("the ASKING goes", x.stop(0), 1);
        D.due("1 is told, since it ASKS", Net.find(x, 12, 0, 1) >= 0 ? 1 : 0, 1);
        Net.bring(x, 12, 0, 1);
        D.due("1 ASKS none", x.about(1, 1), -6);
        D.due("1 knows of none", x.view(1, 1, -1), 0);
        D.due("no ASKING", Net.count(x, 5), 0);
    }

    /** 1 has 0, knows of 4, 3, 2 and MENDS since 5 stopped; 3 is full. COIN 1 again and again. */
    private static void refusalIsMended() {
        ViewBroadcast x = new ViewBroadcast();
        x.sizes(2, 4);
        x.walks(1, 0, 4);
        Net.with(x, 7);
        for (int joiner : new int[] {2, 3, 4, 1}) {
            x.join(joiner, 0);
            Net.bring(x, 1, joiner, 0);
        }
        Net.bring(x, 3, 0, 1);
        Net.bring(x, 3, 0, 3);
        x.coin(1);
        D.due("mix(0)", x.mix(0), 1);
        D.due("LIST", Net.listOf(x, x.told(2) - 1), 0x1543);
        Net.bring(x, 7, 0, 1);
        D.due("1 took the LIST", Net.list(x, 1, 1), 0x543);
        D.due("the answer has none", x.letter(Net.find(x, 8, 1, 0), 5), 0);
        x.join(5, 1);
        Net.bring(x, 1, 5, 1);
        x.join(6, 3);
        Net.bring(x, 1, 6, 3);
        x.stop(5);
        Net.bring(x, 12, 5, 1);
        D.due("1 has", Net.list(x, 1, 0), 1);
        D.due("1 ASKS", x.about(1, 1), 3);
        D.due("not in need", x.letter(Net.find(x, 5, 1, 3), 3), 0);
        Net.bring(x, 5, 1, 3);
        D.due("3 refuses", Net.bring(x, 6, 3, 1), 6);
        D.due("1 ASKED", x.about(1, 2), 8);
        D.due("1 ASKS", x.about(1, 1), 2);
        Net.bring(x, 5, 1, 2);
        D.due("2 took it", x.how(2, 1), 1);
        D.due("2 welcomes it", Net.bring(x, 3, 2, 1), 3);
        D.due("1 has", Net.list(x, 1, 0), 0x13);
        D.due("1 knows of", Net.list(x, 1, 1), 0x54);
        D.due("forgotten", x.about(1, 2), 0);
        D.due("1 ASKS none", x.about(1, 1), -6);
    }

    private static void mixGoesOnAndIsAnswered() {
        ViewBroadcast x = new ViewBroadcast();
        x.sizes(2, 4);
        x.walks(2, 0, 4);
        Net.triangle(x);
        Net.with(x, 3);
        for (int joiner = 3; joiner < 6; joiner++) {
            x.join(joiner, 2);
            Net.bring(x, 1, joiner, 2);
        }
        D.due("2 knows of", Net.list(x, 2, 1), 0x124);
        D.due("mix(1)", x.mix(1), 0);
        Net.bring(x, 7, 1, 0);
        int i = Net.find(x, 7, 0, 2);
        D.due("on to 2, x", x.letter(i, 3), 1);
        D.due("on to 2, y less 1", x.letter(i, 4), 1);
        D.due("on to 2, LIST", Net.listOf(x, i), 0x23);
        D.due("0 took nothing", x.view(0, 1, -1), 0);
        x.coin(5);
        x.deliver(i);
        i = Net.find(x, 8, 2, 1);
        D.due("as many as LIST has, DRAWN", Net.listOf(x, i), 0x42);
        D.due("x and y", x.letter(i, 3) + x.letter(i, 4), 0);
        D.due("2 knows of, still", Net.list(x, 2, 1), 0x124);
        Net.bring(x, 2, 2, 1);
        Net.bring(x, 4, 2, 1);
        D.due("MIXED", Net.bring(x, 8, 2, 1), 8);
        D.due("1 NOTED it behind 2, not itself", Net.list(x, 1, 1), 0x34);
    }

    private static void tellAndChoice() {
        ViewBroadcast x = Net.triangle();
        x.tale(0);
        x.go(2);
        D.due("1 to 2, 2 to 1", x.letter(0, 2) * 10 + x.letter(1, 2), 99);
        D.due("y HOPS and 1", x.letter(1, 4), 2);
        x.go(1);
        D.due("HEARD already: LAZY", x.how(2, 1), 2);
        D.due("HOPS stay", x.heard(2, 0), 1);
        D.due("CHOICE to 1", x.letter(1, 2) * 10 + x.letter(1, 1), 111);
        D.due("y 0", x.letter(1, 4), 0);
        x.go(10);
        D.due("LAZY", x.how(1, 2), 2);
        x.tale(1);
        D.due("EAGER first: 9 to 0", x.letter(0, 2) * 10 + x.letter(0, 1), 90);
        D.due("LAZY then: 10 to 2", x.letter(1, 2) * 10 + x.letter(1, 1), 102);
        D.due("x the TALE", x.letter(1, 3), 1);
        D.due("y none", x.letter(1, 4), 0);
    }

    /** 1 HEARD the TALE before it was linked with 2, who HEARS it then and tells 1. */
    private static void choiceMakesLazy() {
        ViewBroadcast x = Net.of(3);
        x.join(2, 0);
        x.go(2);
        x.join(1, 0);
        x.go(1);
        Net.bring(x, 3, 0, 1);
        x.tale(0);
        Net.bring(x, 9, 0, 1);
        Net.bring(x, 2, 0, 2);
        Net.bring(x, 3, 2, 1);
        Net.bring(x, 9, 0, 2);
        D.due("told once more", Net.bring(x, 9, 2, 1), 9);
        D.due("2 is LAZY to 1", x.how(1, 2), 2);
        D.due("1 is EAGER to 2", x.how(2, 1), 1);
        D.due("CHOICE", Net.bring(x, 11, 1, 2), 11);
        D.due("1 is LAZY to 2", x.how(2, 1), 2);
    }

    private static void lettersOfStrangers() {
        ViewBroadcast x = new ViewBroadcast();
        x.sizes(2, 4);
        Net.with(x, 5);
        x.join(1, 0);
        x.go(2);
        x.tale(0);
        for (int joiner = 2; joiner < 4; joiner++) {
            x.join(joiner, 1);
            Net.bring(x, 1, joiner, 1);
        }
        D.due("1 dropped 0", Net.list(x, 1, 0), 0x34);
        D.due("TELL of a stranger", Net.bring(x, 9, 0, 1), 9);
        D.due("not HEARD", x.heard(1, 0), -6);
        D.due("but it came", x.about(1, 5), 4);
        x.join(4, 0);
        Net.bring(x, 1, 4, 0);
        x.join(2, 0);
        Net.bring(x, 1, 2, 0);
        D.due("0 dropped 1", Net.find(x, 4, 0, 1) >= 0 ? 1 : 0, 1);
        Net.bring(x, 2, 0, 1);
        D.due("PARTING of a stranger", Net.bring(x, 4, 0, 1), 4);
        D.due("no mending", x.about(1, 1), -6);
    }

    /** 0 to 3, each linked with each; but for those of 0 the links are LAZY. */
    private static ViewBroadcast four() {
        ViewBroadcast x = Net.triangle();
        x.node();
        x.join(3, 0);
        x.go(50);
        x.tale(0);
        x.go(50);
        return x;
    }

    private static void noteFromTwo() {
        ViewBroadcast x = four();
        D.due("3 is LAZY to 1 and 2", x.how(1, 3) * 10 + x.how(2, 3), 22);
        x.tale(0);
        Net.bring(x, 9, 0, 1);
        Net.bring(x, 9, 0, 2);
        x.tick();
        Net.bring(x, 10, 2, 3);
        x.tick();
        Net.bring(x, 10, 1, 3);
        D.due("two told", x.missed(3, 1), 2);
        int before = Net.count(x, 11);
        x.tick();
        x.tick();
        D.due("the hour is that of the first NOTE", Net.count(x, 11), before);
        x.tick();
        D.due("the first is asked", Net.find(x, 11, 3, 2) >= 0 ? 1 : 0, 1);
        D.due("one is left", x.missed(3, 1), 1);
        D.due("2 is EAGER", x.how(3, 2), 1);
        D.due("1 is LAZY", x.how(3, 1), 2);
        x.tick();
        D.due("not the next yet", Net.find(x, 11, 3, 1), -1);
        x.tick();
        D.due("then the next", Net.find(x, 11, 3, 1) >= 0 ? 1 : 0, 1);
        D.due("TIME", x.told(5), 7);
    }

    private static void tellersLeave() {
        ViewBroadcast x = four();
        x.tale(0);
        Net.bring(x, 9, 0, 1);
        Net.bring(x, 10, 1, 3);
        D.due("one told", x.missed(3, 1), 1);
        x.stop(1);
        Net.bring(x, 12, 1, 3);
        D.due("it is told of by none", x.missed(3, 1), 0);
        D.due("MISSED still", x.about(3, 4), 1);
        int letters = x.told(2);
        for (int i = 0; i < 4; i++) {
            x.tick();
        }
        D.due("MISSED no more", x.about(3, 4), 0);
        D.due("without a LETTER", x.told(2), letters);
    }
}
