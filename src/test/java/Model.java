import java.util.ArrayList;
import java.util.Arrays;
import java.util.HashSet;
import java.util.LinkedHashMap;
import java.util.List;
import java.util.Map;
import java.util.Set;
import java.util.TreeMap;
import java.util.TreeSet;

/**
 * The document once more, in the plainest form with the whole Java library,
 * so that ModelTest can set the program's answers against it.
 */
final class Model {
    static final int UNKNOWN = -1, OUTSIDE = -2, STATE = -3, FULL = -4, NO = -5, NONE = -6;

    static final class Post {
        int from, to, kind, x, y;
        List<Integer> list = List.of();
    }

    static final class Lack {
        int hour;
        List<Integer> tellers = new ArrayList<>();
    }

    static final class Peer {
        int id, came, asks = NONE;
        boolean live = true;
        Map<Integer, Boolean> active = new LinkedHashMap<>(); // to whether it is EAGER
        List<Integer> passive = new ArrayList<>();
        Set<Integer> asked = new TreeSet<>();
        Map<Integer, Integer> heard = new TreeMap<>();
        Map<Integer, Lack> lacks = new TreeMap<>();

        List<Integer> links() {
            return new ArrayList<>(active.keySet());
        }
    }

    static final class All {
        int a = 3, p = 5, longWalk = 4, shortWalk = 2, wait = 4, spilt, tales, time, nextCoin;
        List<Peer> peers = new ArrayList<>();
        List<Post> row = new ArrayList<>();
        int[] came = new int[13];

        All copy() {
            All c = new All();
            c.a = a;
            c.p = p;
            c.longWalk = longWalk;
            c.shortWalk = shortWalk;
            c.wait = wait;
            c.spilt = spilt;
            c.tales = tales;
            c.time = time;
            c.nextCoin = nextCoin;
            c.came = came.clone();
            c.row.addAll(row); // a Post is never changed once it is in a ROW
            for (Peer o : peers) {
                Peer n = new Peer();
                n.id = o.id;
                n.came = o.came;
                n.asks = o.asks;
                n.live = o.live;
                n.active.putAll(o.active);
                n.passive.addAll(o.passive);
                n.asked.addAll(o.asked);
                n.heard.putAll(o.heard);
                for (Map.Entry<Integer, Lack> e : o.lacks.entrySet()) {
                    Lack l = new Lack();
                    l.hour = e.getValue().hour;
                    l.tellers.addAll(e.getValue().tellers);
                    n.lacks.put(e.getKey(), l);
                }
                c.peers.add(n);
            }
            return c;
        }
    }

    All all = new All();
    final All[] places = new All[2];
    final List<Integer> coins = new ArrayList<>();

    // ---- the words of the Terms

    Integer drawn(List<Integer> from) {
        if (from.isEmpty()) {
            return null;
        }
        if (from.size() == 1 || coins.isEmpty()) {
            return from.get(0);
        }
        int coin = coins.get(all.nextCoin);
        all.nextCoin = all.nextCoin + 1 == coins.size() ? 0 : all.nextCoin + 1;
        return from.get(coin % from.size());
    }

    List<Integer> drawnSome(List<Integer> from, int most) {
        List<Integer> left = new ArrayList<>(from), got = new ArrayList<>();
        while (got.size() < most && !left.isEmpty()) {
            Integer q = drawn(left);
            left.remove(q);
            got.add(q);
        }
        return got;
    }

    void post(int from, int to, int kind, int x, int y, List<Integer> list) {
        if (!all.peers.get(to).live) {
            put(to, from, 12, 0, 0, List.of());
        } else {
            put(from, to, kind, x, y, list);
        }
    }

    void put(int from, int to, int kind, int x, int y, List<Integer> list) {
        if (all.row.size() == 500) {
            all.spilt++;
            return;
        }
        Post l = new Post();
        l.from = from;
        l.to = to;
        l.kind = kind;
        l.x = x;
        l.y = y;
        l.list = new ArrayList<>(list);
        all.row.add(l);
    }

    void post(Peer from, int to, int kind, int x, int y) {
        post(from.id, to, kind, x, y, List.of());
    }

    void add(Peer r, int q) {
        if (q == r.id || r.active.containsKey(q)) {
            return;
        }
        r.passive.remove((Integer) q);
        if (r.active.size() == all.a) {
            int out = drawn(r.links());
            post(r, out, 4, 0, 0);
            leaves(r, out);
            noted(r, out);
        }
        r.active.put(q, true);
        if (r.asks == q) {
            r.asks = NONE;
        }
    }

    void leaves(Peer r, int q) {
        r.active.remove(q);
        for (Lack l : r.lacks.values()) {
            l.tellers.remove((Integer) q);
        }
    }

    void noted(Peer r, int q) {
        if (q == r.id || r.active.containsKey(q) || r.passive.contains(q)) {
            return;
        }
        if (r.passive.size() == all.p) {
            r.passive.remove(drawn(r.passive));
        }
        r.passive.add(q);
    }

    void mended(Peer r) {
        if (r.active.size() == all.a || r.asks != NONE) {
            return;
        }
        List<Integer> left = new ArrayList<>(r.passive);
        left.removeAll(r.asked);
        Integer q = drawn(left);
        if (q == null) {
            r.asked.clear();
        } else {
            r.asks = q;
            post(r, q, 5, r.active.isEmpty() ? 1 : 0, 0);
        }
    }

    void walk(Peer r, int s, int x, int y) {
        if (x == r.id) {
            return;
        }
        if (y != 0 && r.active.size() > 1) {
            if (y == all.shortWalk) {
                noted(r, x);
            }
            List<Integer> on = r.links();
            on.removeAll(List.of(s, x));
            Integer next = drawn(on);
            if (next != null) {
                post(r, next, 2, x, y - 1);
                return;
            }
        }
        if (!r.active.containsKey(x)) {
            add(r, x);
            post(r, x, 3, 0, 0);
        }
    }

    void mixed(Peer r, Post l) {
        if (l.y > 1) {
            List<Integer> on = r.links();
            on.removeAll(List.of(l.from, l.x));
            Integer next = drawn(on);
            if (next != null) {
                post(r.id, next, 7, l.x, l.y - 1, l.list);
                return;
            }
        }
        if (l.x != r.id) {
            post(r.id, l.x, 8, 0, 0, drawnSome(r.passive, l.list.size()));
        }
        for (int q : l.list) {
            noted(r, q);
        }
    }

    void hears(Peer r, int t, int hops, int sender) {
        r.heard.put(t, hops);
        r.lacks.remove(t);
        for (boolean eager : new boolean[] {true, false}) {
            for (int q : r.links()) {
                if (q != sender && r.active.get(q) == eager) {
                    post(r, q, eager ? 9 : 10, t, eager ? hops + 1 : 0);
                }
            }
        }
    }

    int comes(int i) {
        Post l = all.row.remove(i);
        all.came[0]++;
        all.came[l.kind]++;
        Peer r = all.peers.get(l.to);
        r.came++;
        int s = l.from;
        boolean linked = r.active.containsKey(s);
        if (l.kind == 1) {
            add(r, s);
            for (int q : r.links()) {
                if (q != s) {
                    post(r, q, 2, s, all.longWalk);
                }
            }
            post(r, s, 3, 0, 0);
        } else if (l.kind == 2) {
            walk(r, s, l.x, l.y);
        } else if (l.kind == 3) {
            add(r, s);
            r.asked.clear();
        } else if (l.kind == 4 && linked) {
            leaves(r, s);
            noted(r, s);
            mended(r);
        } else if (l.kind == 5) {
            if (l.x == 1 || r.active.size() < all.a || linked) {
                add(r, s);
                post(r, s, 3, 0, 0);
            } else {
                post(r, s, 6, 0, 0);
            }
        } else if (l.kind == 6 && r.asks == s) {
            r.asks = NONE;
            r.asked.add(s);
            mended(r);
        } else if (l.kind == 7) {
            mixed(r, l);
        } else if (l.kind == 8) {
            for (int q : l.list) {
                noted(r, q);
            }
        } else if (l.kind == 9 && linked) {
            if (r.heard.containsKey(l.x)) {
                r.active.put(s, false);
                post(r, s, 11, 0, 0);
            } else {
                r.active.put(s, true);
                hears(r, l.x, l.y, s);
            }
        } else if (l.kind == 10 && linked && !r.heard.containsKey(l.x)) {
            if (!r.lacks.containsKey(l.x)) {
                Lack lack = new Lack();
                lack.hour = all.time + all.wait;
                r.lacks.put(l.x, lack);
            }
            List<Integer> tellers = r.lacks.get(l.x).tellers;
            if (!tellers.contains(s)) {
                tellers.add(s);
            }
        } else if (l.kind == 11 && linked) {
            r.active.put(s, l.y == 1);
            if (l.y == 1 && r.heard.containsKey(l.x)) {
                post(r, s, 9, l.x, r.heard.get(l.x) + 1);
            }
        } else if (l.kind == 12) {
            leaves(r, s);
            r.passive.remove((Integer) s);
            if (r.asks == s) {
                r.asks = NONE;
            }
            mended(r);
        }
        return l.kind;
    }

    // ---- the calls

    boolean none(int node) {
        return node < 0 || node >= all.peers.size();
    }

    boolean noTale(int t) {
        return t < 0 || t >= all.tales;
    }

    int sizes(int a, int p) {
        if (a < 2 || a > 5 || p < 2 || p > 8) {
            return OUTSIDE;
        }
        if (!all.peers.isEmpty()) {
            return STATE;
        }
        all.a = a;
        all.p = p;
        return 1;
    }

    int walks(int l, int s, int w) {
        if (l < 1 || l > 6 || s < 0 || s > l || w < 1 || w > 20) {
            return OUTSIDE;
        }
        if (!all.peers.isEmpty()) {
            return STATE;
        }
        all.longWalk = l;
        all.shortWalk = s;
        all.wait = w;
        return 1;
    }

    int coin(int v) {
        if (v < 0) {
            return OUTSIDE;
        }
        if (coins.size() == 64) {
            return FULL;
        }
        coins.add(v);
        return coins.size();
    }

    int node() {
        if (all.peers.size() == 16) {
            return FULL;
        }
        Peer n = new Peer();
        n.id = all.peers.size();
        all.peers.add(n);
        return n.id;
    }

    int join(int node, int contact) {
        if (none(node) || none(contact)) {
            return UNKNOWN;
        }
        if (!all.peers.get(node).live || !all.peers.get(contact).live) {
            return STATE;
        }
        if (node == contact) {
            return NO;
        }
        post(all.peers.get(node), contact, 1, 0, 0);
        return all.row.size();
    }

    int stop(int node) {
        if (none(node)) {
            return UNKNOWN;
        }
        Peer n = all.peers.get(node);
        if (!n.live) {
            return STATE;
        }
        n.live = false;
        int before = all.row.size();
        all.row.removeIf(l -> l.to == node);
        int went = before - all.row.size();
        for (Peer m : all.peers) {
            boolean due = m.active.containsKey(node) || m.asks == node
                || all.row.stream().anyMatch(l -> l.from == node && l.to == m.id);
            if (m.live && due) {
                put(node, m.id, 12, 0, 0, List.of());
            }
        }
        return went;
    }

    int mix(int node) {
        if (none(node)) {
            return UNKNOWN;
        }
        Peer n = all.peers.get(node);
        if (!n.live) {
            return STATE;
        }
        Integer to = drawn(n.links());
        if (to == null) {
            return NO;
        }
        List<Integer> list = new ArrayList<>(List.of(node)), others = n.links();
        others.remove(to);
        list.addAll(drawnSome(others, 2));
        list.addAll(drawnSome(n.passive, 2));
        post(node, to, 7, node, all.longWalk, list);
        return to;
    }

    int tale(int node) {
        if (none(node)) {
            return UNKNOWN;
        }
        if (!all.peers.get(node).live) {
            return STATE;
        }
        if (all.tales == 24) {
            return FULL;
        }
        hears(all.peers.get(node), all.tales, 0, NONE);
        return all.tales++;
    }

    int tick() {
        all.time++;
        for (Peer n : all.peers) {
            for (int t : new ArrayList<>(n.live ? n.lacks.keySet() : Set.<Integer>of())) {
                Lack l = n.lacks.get(t);
                if (l.hour > all.time) {
                    continue;
                }
                if (l.tellers.isEmpty()) {
                    n.lacks.remove(t);
                    continue;
                }
                int q = l.tellers.remove(0);
                n.active.put(q, true);
                post(n, q, 11, t, 1);
                l.hour = all.time + (all.wait == 1 ? 1 : all.wait / 2);
            }
        }
        return all.time;
    }

    int deliver(int i) {
        if (i < 0 || i >= all.row.size()) {
            return UNKNOWN;
        }
        Post l = all.row.get(i);
        for (Post m : all.row.subList(0, i)) {
            if (m.from == l.from && m.to == l.to) {
                return NO;
            }
        }
        return comes(i);
    }

    int go(int n) {
        if (n < 0 || n > 2000) {
            return OUTSIDE;
        }
        int done = 0;
        for (; done < n && !all.row.isEmpty(); done++) {
            comes(0);
        }
        return done;
    }

    int view(int node, int which, int i) {
        if (none(node)) {
            return UNKNOWN;
        }
        if (which < 0 || which > 1) {
            return OUTSIDE;
        }
        List<Integer> v = which == 0 ? all.peers.get(node).links() : all.peers.get(node).passive;
        return i == -1 ? v.size() : i >= 0 && i < v.size() ? v.get(i) : NONE;
    }

    int how(int node, int other) {
        if (none(node) || none(other)) {
            return UNKNOWN;
        }
        Peer n = all.peers.get(node);
        if (n.active.containsKey(other)) {
            return n.active.get(other) ? 1 : 2;
        }
        return n.passive.contains(other) ? 3 : 0;
    }

    int heard(int node, int tale) {
        return none(node) || noTale(tale) ? UNKNOWN : all.peers.get(node).heard.getOrDefault(tale, NONE);
    }

    int missed(int node, int tale) {
        if (none(node) || noTale(tale)) {
            return UNKNOWN;
        }
        Lack l = all.peers.get(node).lacks.get(tale);
        return l == null ? 0 : l.tellers.size();
    }

    int about(int node, int what) {
        if (none(node)) {
            return UNKNOWN;
        }
        Peer n = all.peers.get(node);
        int bits = n.asked.stream().mapToInt(q -> 1 << q).sum();
        int[] answers = {n.live ? 1 : 0, n.asks, bits, n.heard.size(), n.lacks.size(), n.came};
        return what < 0 || what > 5 ? OUTSIDE : answers[what];
    }

    int letter(int i, int what) {
        if (i < 0 || i >= all.row.size()) {
            return UNKNOWN;
        }
        Post l = all.row.get(i);
        int[] answers = {l.from, l.to, l.kind, l.x, l.y, l.list.size()};
        if (what < 0 || what > 5 && what < 10) {
            return OUTSIDE;
        }
        return what < 6 ? answers[what] : what - 10 < l.list.size() ? l.list.get(what - 10) : NONE;
    }

    int even() {
        for (Peer a : all.peers) {
            for (Peer b : all.peers) {
                if (a.live && b.live && a.active.containsKey(b.id) != b.active.containsKey(a.id)) {
                    return 0;
                }
            }
        }
        return 1;
    }

    int reach(int node) {
        if (none(node)) {
            return UNKNOWN;
        }
        if (!all.peers.get(node).live) {
            return STATE;
        }
        Set<Integer> seen = new HashSet<>();
        visit(node, seen);
        return seen.size();
    }

    private void visit(int node, Set<Integer> seen) {
        if (all.peers.get(node).live && seen.add(node)) {
            for (int q : all.peers.get(node).links()) {
                visit(q, seen);
            }
        }
    }

    int came(int kind) {
        return kind < 0 || kind > 12 ? OUTSIDE : all.came[kind];
    }

    int spread(int tale) {
        return noTale(tale) ? UNKNOWN
            : (int) all.peers.stream().filter(n -> n.live && n.heard.containsKey(tale)).count();
    }

    int told(int what) {
        int live = (int) all.peers.stream().filter(n -> n.live).count();
        int[] answers = {all.peers.size(), live, all.row.size(), all.spilt, all.tales, all.time,
            coins.size(), all.nextCoin};
        return what < 0 || what > 7 ? OUTSIDE : answers[what];
    }

    int keep(int k) {
        if (k < 0 || k > 1) {
            return UNKNOWN;
        }
        places[k] = all.copy();
        return 1;
    }

    int back(int k) {
        if (k < 0 || k > 1 || places[k] == null) {
            return UNKNOWN;
        }
        all = places[k].copy();
        return all.peers.size();
    }

    int differs(int k) {
        if (k < 0 || k > 1 || places[k] == null) {
            return UNKNOWN;
        }
        List<Peer> here = all.peers, there = places[k].peers;
        for (int n = 0; n < Math.max(here.size(), there.size()); n++) {
            if (n >= here.size() || n >= there.size() || !picture(here.get(n)).equals(picture(there.get(n)))) {
                return n;
            }
        }
        return NONE;
    }

    private static String picture(Peer n) {
        return Arrays.asList(n.active, n.passive, n.heard).toString();
    }
}
