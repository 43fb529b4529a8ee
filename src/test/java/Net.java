/** Small nets for the tests, and LETTERS found by what they are. */
final class Net {
    private Net() { }

    static ViewBroadcast of(int nodes) {
        return with(new ViewBroadcast(), nodes);
    }

    static ViewBroadcast with(ViewBroadcast x, int nodes) {
        for (int n = 0; n < nodes; n++) {
            x.node();
        }
        return x;
    }

    /** NODES 0 and 1, linked. */
    static ViewBroadcast pair() {
        ViewBroadcast x = of(2);
        x.join(1, 0);
        x.go(2);
        return x;
    }

    /** 0: [1, 2], 1: [0, 2], 2: [0, 1], all EAGER, the ROW empty. */
    static ViewBroadcast triangle() {
        return triangle(new ViewBroadcast());
    }

    static ViewBroadcast triangle(ViewBroadcast x) {
        with(x, 3);
        x.join(1, 0);
        x.go(2);
        x.join(2, 0);
        x.go(4);
        return x;
    }

    /** NODE 0 takes the JOINS of 1 to last; all other LETTERS stay in the ROW. */
    static void star(ViewBroadcast x, int last) {
        for (int n = 1; n <= last; n++) {
            x.join(n, 0);
            bring(x, 1, n, 0);
        }
    }

    static int find(ViewBroadcast x, int kind, int from, int to) {
        for (int i = 0; i < x.told(2); i++) {
            if (x.letter(i, 2) == kind && x.letter(i, 0) == from && x.letter(i, 1) == to) {
                return i;
            }
        }
        return -1;
    }

    static int count(ViewBroadcast x, int kind) {
        int count = 0;
        for (int i = 0; i < x.told(2); i++) {
            count += x.letter(i, 2) == kind ? 1 : 0;
        }
        return count;
    }

    static int bring(ViewBroadcast x, int kind, int from, int to) {
        return x.deliver(find(x, kind, from, to));
    }

    /** A view as digits in base 16, one more than each number: [0, 2] is 0x13. */
    static long list(ViewBroadcast x, int node, int which) {
        long digits = 0;
        for (int i = 0; i < x.view(node, which, -1); i++) {
            digits = digits * 16 + x.view(node, which, i) + 1;
        }
        return digits;
    }

    /** The LIST of a LETTER, likewise. */
    static long listOf(ViewBroadcast x, int i) {
        long digits = 0;
        for (int k = 0; k < x.letter(i, 5); k++) {
            digits = digits * 16 + x.letter(i, 10 + k) + 1;
        }
        return digits;
    }

    /** NODES with chosen SIZES. */
    static ViewBroadcast sized(int a, int p, int nodes) {
        ViewBroadcast x = new ViewBroadcast();
        x.sizes(a, p);
        return with(x, nodes);
    }

    static ViewBroadcast walking(int longWalk, int shortWalk, int wait) {
        ViewBroadcast x = new ViewBroadcast();
        x.walks(longWalk, shortWalk, wait);
        return x;
    }

    static ViewBroadcast coins(ViewBroadcast x, int... values) {
        for (int v : values) {
            x.coin(v);
        }
        return x;
    }

    /** As bring, where a test would mean nothing if the LETTER did not come. */
    static void must(ViewBroadcast x, int kind, int from, int to) {
        int came = bring(x, kind, from, to);
        if (came != kind) {
            throw new IllegalStateException("LETTER " + kind + " from " + from + " to " + to + " did not come: " + came);
        }
    }

    /** The JOINS of some come: they are ADDED by the contact. */
    static void take(ViewBroadcast x, int contact, int... joiners) {
        for (int joiner : joiners) {
            x.join(joiner, contact);
            must(x, 1, joiner, contact);
        }
    }

    /** Likewise, and the WELCOMES come too. */
    static void link(ViewBroadcast x, int contact, int... joiners) {
        for (int joiner : joiners) {
            take(x, contact, joiner);
            must(x, 3, contact, joiner);
        }
    }

    static boolean has(ViewBroadcast x, int kind, int from, int to) {
        return find(x, kind, from, to) >= 0;
    }

    /** The ACTIVE view, LAZY ones with a '~': "1 2~ 3". */
    static String active(ViewBroadcast x, int node) {
        StringBuilder s = new StringBuilder();
        for (int i = 0; i < x.view(node, 0, -1); i++) {
            int q = x.view(node, 0, i);
            s.append(i == 0 ? "" : " ").append(q).append(x.how(node, q) == 2 ? "~" : "");
        }
        return s.toString();
    }

    static String passive(ViewBroadcast x, int node) {
        StringBuilder s = new StringBuilder();
        for (int i = 0; i < x.view(node, 1, -1); i++) {
            s.append(i == 0 ? "" : " ").append(x.view(node, 1, i));
        }
        return s.toString();
    }

    /** LETTER i as KIND, sender>receiver, x, y, LIST: "7 0>2 0 4 [0 1]". */
    static String letter(ViewBroadcast x, int i) {
        StringBuilder s = new StringBuilder();
        s.append(x.letter(i, 2)).append(' ').append(x.letter(i, 0)).append('>').append(x.letter(i, 1));
        s.append(' ').append(x.letter(i, 3)).append(' ').append(x.letter(i, 4));
        for (int k = 0; k < x.letter(i, 5); k++) {
            s.append(k == 0 ? " [" : " ").append(x.letter(i, 10 + k));
        }
        return s.append(x.letter(i, 5) > 0 ? "]" : "").toString();
    }

    /** The ROW from its LETTER i on. */
    static String row(ViewBroadcast x, int from) {
        StringBuilder s = new StringBuilder();
        for (int i = from; i < x.told(2); i++) {
            s.append(i == from ? "" : ", ").append(letter(x, i));
        }
        return s.toString();
    }

    static String row(ViewBroadcast x) {
        return row(x, 0);
    }

    /** All that can be read of it. */
    static String picture(ViewBroadcast x) {
        StringBuilder s = new StringBuilder("told");
        for (int what = 0; what < 8; what++) {
            s.append(' ').append(x.told(what));
        }
        s.append(" even ").append(x.even()).append(" came");
        for (int kind = 0; kind < 13; kind++) {
            s.append(' ').append(x.came(kind));
        }
        for (int n = 0; n < x.told(0); n++) {
            s.append('\n').append(picture(x, n));
        }
        for (int t = 0; t < x.told(4); t++) {
            s.append(t == 0 ? "\nspread " : " ").append(x.spread(t));
        }
        return s.append('\n').append(row(x)).toString();
    }

    private static String picture(ViewBroadcast x, int n) {
        StringBuilder s = new StringBuilder();
        s.append(n).append(": ").append(active(x, n)).append(" | ").append(passive(x, n)).append(" |");
        for (int what = 0; what < 6; what++) {
            s.append(' ').append(x.about(n, what));
        }
        s.append(" reach ").append(x.reach(n)).append(" heard");
        for (int t = 0; t < x.told(4); t++) {
            s.append(' ').append(x.heard(n, t)).append('/').append(x.missed(n, t));
        }
        return s.toString();
    }
}
