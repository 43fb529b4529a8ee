import java.util.ArrayList;
import java.util.List;
import java.util.function.ToIntFunction;

/** The document's 'Terms', its first lines: refused calls, which of two comes first, and that they change nothing. */
public final class TermsRefusedTest {
    private static final int LOW = Integer.MIN_VALUE, HIGH = Integer.MAX_VALUE;

    public static void main(String[] args) {
        Sentences.run(TermsRefusedTest.class);
    }

    @Says("The constants: `UNKNOWN = -1, OUTSIDE = -2, STATE = -3, FULL = -4, NO = -5, NONE = -6`: "
        + "What refused calls answer; NONE: there is none.")
    static void constantsAreMinus1ToMinus6(Due d) {
        int[] all = {ViewBroadcast.UNKNOWN, ViewBroadcast.OUTSIDE, ViewBroadcast.STATE, ViewBroadcast.FULL,
            ViewBroadcast.NO, ViewBroadcast.NONE};
        for (int i = 0; i < all.length; i++) {
            d.due("constant " + i, all[i], -1 - i);
        }
    }

    @Says({"Calls that are refused answer, the first of these that fits:",
        "UNKNOWN -1 (there is no such NODE, LETTER, TALE, place)"})
    static void unknownComesBeforeOutside(Due d) {
        ViewBroadcast x = Net.triangle();
        d.due("view(3, 2, 0)", x.view(3, 2, 0), -1);
        d.due("view(-1, -1, -1)", x.view(-1, -1, -1), -1);
        d.due("view(2, 2, 0)", x.view(2, 2, 0), -2);
        d.due("about(3, 6)", x.about(3, 6), -1);
        d.due("about(-1, -1)", x.about(-1, -1), -1);
        d.due("about(2, 6)", x.about(2, 6), -2);
        d.due("letter(0, 6) without a LETTER", x.letter(0, 6), -1);
        d.due("letter(-1, -1)", x.letter(-1, -1), -1);
        x.join(0, 1);
        d.due("letter(0, 6) with one", x.letter(0, 6), -2);
        d.due("letter(1, 6)", x.letter(1, 6), -1);
    }

    @Says("UNKNOWN -1 (there is no such NODE, LETTER, TALE, place)")
    static void unknownComesBeforeState(Due d) {
        ViewBroadcast x = Net.of(2);
        x.stop(0);
        d.due("join(0, 2): stopped, unknown", x.join(0, 2), -1);
        d.due("join(2, 0): unknown, stopped", x.join(2, 0), -1);
        d.due("join(0, -1)", x.join(0, -1), -1);
        d.due("join(-1, 0)", x.join(-1, 0), -1);
        d.due("join(0, 1): stopped", x.join(0, 1), -3);
        d.due("join(1, 0): stopped", x.join(1, 0), -3);
    }

    @Says("UNKNOWN -1 (there is no such NODE, LETTER, TALE, place)")
    static void unknownComesBeforeFull(Due d) {
        ViewBroadcast x = Net.of(1);
        for (int t = 0; t < 24; t++) {
            x.tale(0);
        }
        d.due("tale(1), full", x.tale(1), -1);
        d.due("tale(-1), full", x.tale(-1), -1);
        d.due("tale(0), full", x.tale(0), -4);
    }

    @Says("UNKNOWN -1 (there is no such NODE, LETTER, TALE, place)")
    static void unknownComesBeforeNo(Due d) {
        ViewBroadcast x = Net.of(1);
        d.due("join(1, 1)", x.join(1, 1), -1);
        d.due("join(-1, -1)", x.join(-1, -1), -1);
        d.due("join(0, 0)", x.join(0, 0), -5);
        d.due("mix(1)", x.mix(1), -1);
        d.due("mix(0)", x.mix(0), -5);
    }

    @Says({"OUTSIDE -2 (another number is not as told)", "STATE -3 (as told)", "Ahead of the calls `sizes`, `walks`, `coin` the interface says: "
        + "---- 1 what is told; SIZES: STATE: there are NODES."})
    static void outsideComesBeforeState(Due d) {
        ViewBroadcast x = Net.of(1);
        int[][] sizes = {{1, 5}, {6, 5}, {3, 1}, {3, 9}};
        for (int[] s : sizes) {
            d.due("sizes(" + s[0] + ", " + s[1] + ") with a NODE", x.sizes(s[0], s[1]), -2);
        }
        int[][] walks = {{0, 0, 4}, {7, 2, 4}, {4, -1, 4}, {4, 5, 4}, {4, 2, 0}, {4, 2, 21}};
        for (int[] w : walks) {
            d.due("walks(" + w[0] + ", " + w[1] + ", " + w[2] + ") with a NODE", x.walks(w[0], w[1], w[2]), -2);
        }
        d.due("sizes(3, 5) with a NODE", x.sizes(3, 5), -3);
        d.due("walks(4, 2, 4) with a NODE", x.walks(4, 2, 4), -3);
    }

    @Says({"OUTSIDE -2 (another number is not as told)", "FULL -4"})
    static void outsideComesBeforeFull(Due d) {
        ViewBroadcast x = new ViewBroadcast();
        for (int i = 0; i < 64; i++) {
            x.coin(i);
        }
        d.due("coin(-1), full", x.coin(-1), -2);
        d.due("coin(LOW), full", x.coin(LOW), -2);
        d.due("coin(0), full", x.coin(0), -4);
    }

    @Says({"STATE -3 (as told)", "FULL -4"})
    static void stateComesBeforeFull(Due d) {
        ViewBroadcast x = Net.of(2);
        for (int t = 0; t < 24; t++) {
            x.tale(t % 2);
        }
        x.stop(1);
        d.due("tale(1), stopped and full", x.tale(1), -3);
        d.due("tale(0), full", x.tale(0), -4);
    }

    @Says({"STATE -3 (as told)", "NO -5 (as told)"})
    static void stateComesBeforeNo(Due d) {
        ViewBroadcast x = Net.of(2);
        x.stop(1);
        d.due("join(1, 1), stopped and one", x.join(1, 1), -3);
        d.due("join(0, 0), one", x.join(0, 0), -5);
        d.due("mix(1), stopped and none linked", x.mix(1), -3);
        d.due("mix(0), none linked", x.mix(0), -5);
    }

    /** A call with what it is refused with. */
    private static final class Refused {
        final String text;
        final int due;
        final ToIntFunction<ViewBroadcast> call;

        Refused(String text, int due, ToIntFunction<ViewBroadcast> call) {
            this.text = text;
            this.due = due;
            this.call = call;
        }
    }

    /** 16 NODES, 64 COINS, 24 TALES, some MISSED; 14 has stopped, 15 is alone; LETTERS of one pair in the ROW. */
    private static ViewBroadcast full() {
        ViewBroadcast x = Net.walking(3, 1, 3);
        x.sizes(3, 4);
        for (int i = 0; i < 64; i++) {
            x.coin(i * 7 % 13);
        }
        Net.with(x, 16);
        for (int n = 1; n < 15; n++) {
            x.join(n, n * 5 % n);
            x.go(3);
        }
        x.go(500);
        x.keep(0);
        for (int t = 0; t < 24; t++) {
            x.tale(t * 3 % 15);
            x.go(t % 4 == 0 ? 40 : 4);
        }
        x.stop(14);
        x.mix(2);
        x.join(4, 3);
        x.join(4, 3);
        x.tick();
        return x;
    }

    private static List<Refused> refusedOfFull() {
        List<Refused> all = new ArrayList<>();
        all.add(new Refused("sizes(2, 2)", -3, x -> x.sizes(2, 2)));
        all.add(new Refused("sizes(1, 2)", -2, x -> x.sizes(1, 2)));
        all.add(new Refused("walks(1, 1, 1)", -3, x -> x.walks(1, 1, 1)));
        all.add(new Refused("walks(1, 2, 1)", -2, x -> x.walks(1, 2, 1)));
        all.add(new Refused("coin(-1)", -2, x -> x.coin(-1)));
        all.add(new Refused("coin(1)", -4, x -> x.coin(1)));
        all.add(new Refused("node()", -4, x -> x.node()));
        for (int n : new int[] {-1, 16, LOW, HIGH}) {
            all.add(new Refused("join(" + n + ", 0)", -1, x -> x.join(n, 0)));
            all.add(new Refused("join(0, " + n + ")", -1, x -> x.join(0, n)));
            all.add(new Refused("stop(" + n + ")", -1, x -> x.stop(n)));
            all.add(new Refused("mix(" + n + ")", -1, x -> x.mix(n)));
            all.add(new Refused("tale(" + n + ")", -1, x -> x.tale(n)));
            all.add(new Refused("view(" + n + ", 0, 0)", -1, x -> x.view(n, 0, 0)));
            all.add(new Refused("how(" + n + ", 0)", -1, x -> x.how(n, 0)));
            all.add(new Refused("how(0, " + n + ")", -1, x -> x.how(0, n)));
            all.add(new Refused("heard(" + n + ", 0)", -1, x -> x.heard(n, 0)));
            all.add(new Refused("missed(" + n + ", 0)", -1, x -> x.missed(n, 0)));
            all.add(new Refused("about(" + n + ", 0)", -1, x -> x.about(n, 0)));
            all.add(new Refused("reach(" + n + ")", -1, x -> x.reach(n)));
        }
        for (int t : new int[] {-1, 24, LOW, HIGH}) {
            all.add(new Refused("heard(0, " + t + ")", -1, x -> x.heard(0, t)));
            all.add(new Refused("missed(0, " + t + ")", -1, x -> x.missed(0, t)));
            all.add(new Refused("spread(" + t + ")", -1, x -> x.spread(t)));
        }
        all.add(new Refused("join(14, 0)", -3, x -> x.join(14, 0)));
        all.add(new Refused("join(0, 14)", -3, x -> x.join(0, 14)));
        all.add(new Refused("join(0, 0)", -5, x -> x.join(0, 0)));
        all.add(new Refused("stop(14)", -3, x -> x.stop(14)));
        all.add(new Refused("mix(14)", -3, x -> x.mix(14)));
        all.add(new Refused("mix(15)", -5, x -> x.mix(15)));
        all.add(new Refused("tale(14)", -3, x -> x.tale(14)));
        all.add(new Refused("tale(0)", -4, x -> x.tale(0)));
        all.add(new Refused("reach(14)", -3, x -> x.reach(14)));
        for (int i : new int[] {-1, 500, LOW, HIGH}) {
            all.add(new Refused("deliver(" + i + ")", -1, x -> x.deliver(i)));
            all.add(new Refused("letter(" + i + ", 0)", -1, x -> x.letter(i, 0)));
        }
        all.add(new Refused("deliver of the first one behind the last", -1, x -> x.deliver(x.told(2))));
        all.add(new Refused("deliver of the last one", -5, x -> x.deliver(x.told(2) - 1)));
        for (int n : new int[] {-1, 2001, LOW, HIGH}) {
            all.add(new Refused("go(" + n + ")", -2, x -> x.go(n)));
        }
        for (int what : new int[] {-1, 13, LOW, HIGH}) {
            all.add(new Refused("view(0, " + what + ", 0)", -2, x -> x.view(0, what, 0)));
            all.add(new Refused("about(0, " + what + ")", -2, x -> x.about(0, what)));
            all.add(new Refused("came(" + what + ")", -2, x -> x.came(what)));
            all.add(new Refused("told(" + what + ")", -2, x -> x.told(what)));
        }
        all.add(new Refused("letter(0, 9)", -2, x -> x.letter(0, 9)));
        for (int k : new int[] {-1, 2, LOW, HIGH}) {
            all.add(new Refused("keep(" + k + ")", -1, x -> x.keep(k)));
            all.add(new Refused("back(" + k + ")", -1, x -> x.back(k)));
            all.add(new Refused("differs(" + k + ")", -1, x -> x.differs(k)));
        }
        all.add(new Refused("back(1), nothing kept", -1, x -> x.back(1)));
        all.add(new Refused("differs(1), nothing kept", -1, x -> x.differs(1)));
        return all;
    }

    /** What is not read at once shows itself then: hours, SIZES, COINS, what is kept. */
    private static String playedOn(ViewBroadcast x) {
        StringBuilder s = new StringBuilder();
        for (int i = 0; i < 12; i++) {
            x.tick();
            x.join(i, (i + 5) % 14);
            x.go(i);
            x.mix(i);
            s.append(Net.picture(x)).append('\n');
        }
        s.append(x.back(1)).append(' ').append(x.back(0)).append(Net.picture(x));
        return s.toString();
    }

    @Says("They change nothing.")
    static void refusedCallsChangeNothing(Due d) {
        String before = Net.picture(full()), then = playedOn(full());
        for (Refused r : refusedOfFull()) {
            ViewBroadcast x = full();
            d.due(r.text, r.call.applyAsInt(x), r.due);
            d.due("what " + r.text + " changed", Net.picture(x).equals(before) ? 0 : 1, 0);
            d.due("what " + r.text + " changed, seen later", playedOn(x).equals(then) ? 0 : 1, 0);
        }
    }

    @Says("They change nothing.")
    static void refusedSizesChangeNeitherOfBoth(Due d) {
        for (int[] bad : new int[][] {{5, 9}, {5, 1}, {6, 8}, {1, 8}}) {
            ViewBroadcast x = new ViewBroadcast();
            x.sizes(2, 3);
            d.due("sizes(" + bad[0] + ", " + bad[1] + ")", x.sizes(bad[0], bad[1]), -2);
            Net.take(Net.with(x, 9), 0, 1, 2, 3, 4, 5, 6, 7, 8);
            d.due("A is 2 still: ACTIVE", Net.active(x, 0), "7 8");
            d.due("P is 3 still: PASSIVE", Net.passive(x, 0), "4 5 6");
        }
    }

    @Says("They change nothing.")
    static void refusedWalksChangeNoneOfThree(Due d) {
        for (int[] bad : new int[][] {{6, 7, 9}, {6, 0, 0}, {6, 0, 21}, {6, -1, 9}, {7, 0, 9}, {0, 0, 9}}) {
            ViewBroadcast x = new ViewBroadcast();
            x.walks(3, 3, 2);
            d.due("walks(" + bad[0] + ", " + bad[1] + ", " + bad[2] + ")", x.walks(bad[0], bad[1], bad[2]), -2);
            Net.triangle(x);
            x.tale(0);
            x.go(50);
            Net.with(x, 1);
            Net.take(x, 0, 3);
            d.due("LONG is 3 still: WALK", Net.letter(x, Net.find(x, 2, 0, 1)), "2 0>1 3 3");
            Net.must(x, 2, 0, 1);
            d.due("SHORT is 3 still: NOTED", Net.passive(x, 1), "3");
            x.tale(0);
            Net.must(x, 9, 0, 1);
            Net.must(x, 2, 1, 2);
            Net.must(x, 10, 1, 2);
            x.tick();
            d.due("no CHOICE after one TICK", Net.count(x, 11), 0);
            x.tick();
            d.due("WAIT is 2 still: CHOICE", Net.count(x, 11), 1);
        }
    }

    @Says("An object is used for at most 512 calls after it has been made; what later calls answer is free.")
    static void the512thCallStillAnswersAsDue(Due d) {
        ViewBroadcast x = Net.of(2);
        int calls = 2;
        for (int i = 1; i <= 500; i++, calls++) {
            d.due("join, the " + i + "th", x.join(1, 0), i);
        }
        d.due("told(3)", x.told(3), 0);
        d.due("join(1, 0)", x.join(1, 0), 500);
        d.due("told(3)", x.told(3), 1);
        d.due("keep(0)", x.keep(0), 1);
        d.due("stop(0)", x.stop(0), 500);
        d.due("about(0, 0)", x.about(0, 0), 0);
        d.due("back(0)", x.back(0), 2);
        d.due("about(0, 0)", x.about(0, 0), 1);
        calls += 8;
        d.due("calls until now", calls, 510);
        d.due("go(2000)", x.go(2000), 1000);
        d.due("the 512th, came(3)", x.came(3), 500);
    }
}
