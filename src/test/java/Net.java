/** Small nets for the tests, and LETTERS found by what they are. */
final class Net {
    private Net() { }

    static ViewBroadcast of(int nodes) {
        return with(new ViewBroadcast(), nodes);
    }

    static ViewBroadcast with(ViewBroadcast x, int nodes) {
        for (int n = 0; n < nodes; n++) {
            x.node();
        }
        return x;
    }

    /** NODES 0 and 1, linked. */
    static ViewBroadcast pair() {
        ViewBroadcast x = of(2);
        x.join(1, 0);
        x.go(2);
        return x;
    }

    /** 0: [1, 2], 1: [0, 2], 2: [0, 1], all EAGER, the ROW empty. */
    static ViewBroadcast triangle() {
        return triangle(new ViewBroadcast());
    }

    static ViewBroadcast triangle(ViewBroadcast x) {
        with(x, 3);
        x.join(1, 0);
        x.go(2);
        x.join(2, 0);
        x.go(4);
        return x;
    }

    /** NODE 0 takes the JOINS of 1 to last; all other LETTERS stay in the ROW. */
    static void star(ViewBroadcast x, int last) {
        for (int n = 1; n <= last; n++) {
            x.join(n, 0);
            bring(x, 1, n, 0);
        }
    }

    static int find(ViewBroadcast x, int kind, int from, int to) {
        for (int i = 0; i < x.told(2); i++) {
            if (x.letter(i, 2) == kind && x.letter(i, 0) == from && x.letter(i, 1) == to) {
                return i;
            }
        }
        return -1;
    }

    static int count(ViewBroadcast x, int kind) {
        int count = 0;
        for (int i = 0; i < x.told(2); i++) {
            count += x.letter(i, 2) == kind ? 1 : 0;
        }
        return count;
    }

    static int bring(ViewBroadcast x, int kind, int from, int to) {
        return x.deliver(find(x, kind, from, to));
    }

    /** A view as digits in base 16, one more than each number: [0, 2] is 0x13. */
    static long list(ViewBroadcast x, int node, int which) {
        long digits = 0;
        for (int i = 0; i < x.view(node, which, -1); i++) {
            digits = digits * 16 + x.view(node, which, i) + 1;
        }
        return digits;
    }

    /** The LIST of a LETTER, likewise. */
    static long listOf(ViewBroadcast x, int i) {
        long digits = 0;
        for (int k = 0; k < x.letter(i, 5); k++) {
            digits = digits * 16 + x.letter(i, 10 + k) + 1;
        }
        return digits;
    }
}
