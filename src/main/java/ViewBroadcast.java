/**
 * A broadcast among nodes that know few others: views of links, walks of joiners,
 * tales along a tree of links, all by letters in one row and by told coins.
 */
public final class ViewBroadcast {
    public static final int UNKNOWN = -1, OUTSIDE = -2, STATE = -3, FULL = -4, NO = -5, NONE = -6;

    private static final int MOST_NODES = 16, MOST_TALES = 24, MOST_LETTERS = 500, MOST_COINS = 64;
    private static final int MOST_ACTIVE = 5, MOST_PASSIVE = 8, MOST_LISTED = 5;
    private static final int MOST_STEPS = 6, MOST_WAIT = 20, MOST_GO = 2000, PLACES = 2;

    private static final int JOIN = 1, WALK = 2, WELCOME = 3, PARTING = 4, ASKING = 5, REFUSAL = 6;
    private static final int MIX = 7, MIXED = 8, TELL = 9, NOTE = 10, CHOICE = 11, STOPPED = 12;

    private static final int LIST_FROM = 10;

    private final Coins coins = new Coins();
    private final World world = new World(coins);
    private final Views views = new Views(world);
    private final Tales tales = new Tales(world);
    private final World[] kept = new World[PLACES];
    private final boolean[] isKept = new boolean[PLACES];

    public ViewBroadcast() {
        for (int k = 0; k < PLACES; k++) {
            kept[k] = new World(coins);
        }
    }

    // ---- 1 what is told

    public int sizes(int a, int p) {
        if (a < 2 || a > MOST_ACTIVE || p < 2 || p > MOST_PASSIVE) {
            return OUTSIDE;
        }
        if (world.nodeCount > 0) {
            return STATE;
        }
        world.sizes.active = a;
        world.sizes.passive = p;
        return 1;
    }

    public int walks(int longWalk, int shortWalk, int wait) {
        if (longWalk < 1 || longWalk > MOST_STEPS || shortWalk < 0 || shortWalk > longWalk) {
            return OUTSIDE;
        }
        if (wait < 1 || wait > MOST_WAIT) {
            return OUTSIDE;
        }
        if (world.nodeCount > 0) {
            return STATE;
        }
        world.sizes.longWalk = longWalk;
        world.sizes.shortWalk = shortWalk;
        world.sizes.wait = wait;
        return 1;
    }

    public int coin(int v) {
        if (v < 0) {
            return OUTSIDE;
        }
        return coins.put(v) ? coins.count : FULL;
    }

    // ---- 2 what is done

    public int node() {
        return world.openNode();
    }

    public int join(int node, int contact) {
        if (!world.isNode(node) || !world.isNode(contact)) {
            return UNKNOWN;
        }
        if (!world.nodeAt(node).live || !world.nodeAt(contact).live) {
            return STATE;
        }
        if (node == contact) {
            return NO;
        }
        world.send(node, contact, JOIN, 0, 0);
        return world.row.count;
    }

    public int stop(int node) {
        int refused = refusedActor(node);
        return refused != 0 ? refused : world.halt(world.nodeAt(node));
    }

    public int mix(int node) {
        int refused = refusedActor(node);
        return refused != 0 ? refused : views.beginMix(world.nodeAt(node));
    }

    public int tale(int node) {
        int refused = refusedActor(node);
        if (refused != 0) {
            return refused;
        }
        if (world.taleCount >= MOST_TALES) {
            return FULL;
        }
        int number = world.taleCount;
        world.taleCount++;
        tales.hear(world.nodeAt(node), number, 0, NONE);
        return number;
    }

    public int tick() {
        return tales.pass();
    }

    public int deliver(int i) {
        if (!world.row.isLetter(i)) {
            return UNKNOWN;
        }
        return world.row.canCome(i) ? come(i) : NO;
    }

    public int go(int n) {
        if (n < 0 || n > MOST_GO) {
            return OUTSIDE;
        }
        int done = 0;
        while (done < n && world.row.count > 0) {
            come(0);
            done++;
        }
        return done;
    }

    // ---- 3 what is told of it

    public int view(int node, int which, int i) {
        if (!world.isNode(node)) {
            return UNKNOWN;
        }
        if (which != 0 && which != 1) {
            return OUTSIDE;
        }
        Node n = world.nodeAt(node);
        NodeList list = which == 0 ? n.active : n.passive;
        return i == -1 ? list.count : list.at(i);
    }

    public int how(int node, int other) {
        if (!world.isNode(node) || !world.isNode(other)) {
            return UNKNOWN;
        }
        Node n = world.nodeAt(node);
        if (n.active.has(other)) {
            return n.isLazy(other) ? 2 : 1;
        }
        return n.passive.has(other) ? 3 : 0;
    }

    public int heard(int node, int tale) {
        if (!world.isNode(node) || !world.isTale(tale)) {
            return UNKNOWN;
        }
        return world.nodeAt(node).hopsOf(tale);
    }

    public int missed(int node, int tale) {
        if (!world.isNode(node) || !world.isTale(tale)) {
            return UNKNOWN;
        }
        return world.nodeAt(node).missOf(tale).tellers.count;
    }

    public int about(int node, int what) {
        if (!world.isNode(node)) {
            return UNKNOWN;
        }
        Node n = world.nodeAt(node);
        switch (what) {
            case 0: return n.live ? 1 : 0;
            case 1: return n.asks;
            case 2: return n.asked;
            case 3: return n.heardCount();
            case 4: return n.missedCount();
            case 5: return n.arrived;
            default: return OUTSIDE;
        }
    }

    public int letter(int i, int what) {
        if (!world.row.isLetter(i)) {
            return UNKNOWN;
        }
        Letter l = world.row.at(i);
        switch (what) {
            case 0: return l.sender;
            case 1: return l.receiver;
            case 2: return l.kind;
            case 3: return l.x;
            case 4: return l.y;
            case 5: return l.list.count;
            default: return what < LIST_FROM ? OUTSIDE : l.list.at(what - LIST_FROM);
        }
    }

    public int even() {
        return world.isEven() ? 1 : 0;
    }

    public int reach(int node) {
        int refused = refusedActor(node);
        return refused != 0 ? refused : world.reachFrom(node);
    }

    public int came(int kind) {
        if (kind < 0 || kind > STOPPED) {
            return OUTSIDE;
        }
        return world.arrivals[kind];
    }

    public int spread(int tale) {
        return world.isTale(tale) ? world.hearersOf(tale) : UNKNOWN;
    }

    public int told(int what) {
        switch (what) {
            case 0: return world.nodeCount;
            case 1: return world.liveCount();
            case 2: return world.row.count;
            case 3: return world.row.spilt;
            case 4: return world.taleCount;
            case 5: return world.time;
            case 6: return coins.count;
            case 7: return world.nextCoin;
            default: return OUTSIDE;
        }
    }

    // ---- 4 states

    public int keep(int k) {
        if (!isPlace(k)) {
            return UNKNOWN;
        }
        kept[k].copyFrom(world);
        isKept[k] = true;
        return 1;
    }

    public int back(int k) {
        if (!isPlace(k) || !isKept[k]) {
            return UNKNOWN;
        }
        world.copyFrom(kept[k]);
        return world.nodeCount;
    }

    public int differs(int k) {
        if (!isPlace(k) || !isKept[k]) {
            return UNKNOWN;
        }
        return world.firstOtherNode(kept[k]);
    }

    private static boolean isPlace(int k) {
        return k >= 0 && k < PLACES;
    }

    /** What a call by a NODE that must be LIVE is refused with, or 0. */
    private int refusedActor(int node) {
        if (!world.isNode(node)) {
            return UNKNOWN;
        }
        return world.nodeAt(node).live ? 0 : STATE;
    }

    /** LETTER i leaves the ROW and does what its KIND does: its KIND. */
    private int come(int i) {
        Letter l = world.takeLetter(i);
        Node r = world.nodeAt(l.receiver);
        switch (l.kind) {
            case JOIN: views.onJoin(r, l.sender); break;
            case WALK: views.onWalk(r, l.sender, l.x, l.y); break;
            case WELCOME: views.onWelcome(r, l.sender); break;
            case PARTING: views.onParting(r, l.sender); break;
            case ASKING: views.onAsking(r, l.sender, l.x); break;
            case REFUSAL: views.onRefusal(r, l.sender); break;
            case MIX: views.onMix(r, l); break;
            case MIXED: views.takeList(r, l.list); break;
            case TELL: tales.onTell(r, l.sender, l.x, l.y); break;
            case NOTE: tales.onNote(r, l.sender, l.x); break;
            case CHOICE: tales.onChoice(r, l.sender, l.x, l.y); break;
            case STOPPED: views.onStopped(r, l.sender); break;
            default: break;
        }
        return l.kind;
    }

    /** The COINS told; which one is next belongs to the World, since it is kept with it. */
    private static final class Coins {
        final int[] values = new int[MOST_COINS];
        int count = 0;

        boolean put(int v) {
            if (count >= MOST_COINS) {
                return false;
            }
            values[count] = v;
            count++;
            return true;
        }

        int at(int i) {
            return i >= 0 && i < count ? values[i] : 0;
        }

        int behind(int i) {
            return i + 1 < count ? i + 1 : 0;
        }
    }

    private static final class Sizes {
        int active = 3, passive = 5, longWalk = 4, shortWalk = 2, wait = 4;

        void copyFrom(Sizes other) {
            active = other.active;
            passive = other.passive;
            longWalk = other.longWalk;
            shortWalk = other.shortWalk;
            wait = other.wait;
        }
    }

    /** Numbers of NODES in the order in which they came, up to a told number of them. */
    private static final class NodeList {
        final int[] numbers;
        int count = 0;

        NodeList(int most) {
            numbers = new int[Math.max(most, 0)];
        }

        int at(int i) {
            return i >= 0 && i < count ? numbers[i] : NONE;
        }

        int placeOf(int q) {
            for (int i = 0; i < count; i++) {
                if (numbers[i] == q) {
                    return i;
                }
            }
            return NONE;
        }

        boolean has(int q) {
            return placeOf(q) != NONE;
        }

        void put(int q) {
            if (count < numbers.length) {
                numbers[count] = q;
                count++;
            }
        }

        void removeAt(int i) {
            if (i < 0 || i >= count) {
                return;
            }
            for (int j = i; j + 1 < count; j++) {
                numbers[j] = numbers[j + 1];
            }
            count--;
        }

        void remove(int q) {
            removeAt(placeOf(q));
        }

        void clear() {
            count = 0;
        }

        void copyFrom(NodeList other) {
            count = Math.min(other.count, numbers.length);
            for (int i = 0; i < count; i++) {
                numbers[i] = other.at(i);
            }
        }

        boolean isSameAs(NodeList other) {
            if (count != other.count) {
                return false;
            }
            for (int i = 0; i < count; i++) {
                if (numbers[i] != other.at(i)) {
                    return false;
                }
            }
            return true;
        }
    }

    private static final class Letter {
        int sender, receiver, kind, x, y;
        final NodeList list = new NodeList(MOST_LISTED);

        void write(int from, int to, int newKind, int newX, int newY) {
            sender = from;
            receiver = to;
            kind = newKind;
            x = newX;
            y = newY;
            list.clear();
        }

        void copyFrom(Letter other) {
            write(other.sender, other.receiver, other.kind, other.x, other.y);
            list.copyFrom(other.list);
        }
    }

    /** The ROW: a ring of LETTERS that are made once and written anew. */
    private static final class Row {
        final Letter[] ring = new Letter[MOST_LETTERS];
        int first = 0, count = 0, spilt = 0;

        Row() {
            for (int i = 0; i < MOST_LETTERS; i++) {
                ring[i] = new Letter();
            }
        }

        int place(int i) {
            return i > 0 && i < MOST_LETTERS ? (first + i) % MOST_LETTERS : first;
        }

        boolean isLetter(int i) {
            return i >= 0 && i < count;
        }

        Letter at(int i) {
            return ring[place(i)];
        }

        /** The LETTER to be written next, behind all others; null if it is SPILT. */
        Letter open() {
            if (count >= MOST_LETTERS) {
                spilt++;
                return null;
            }
            count++;
            return ring[place(count - 1)];
        }

        void removeAt(int i) {
            if (!isLetter(i)) {
                return;
            }
            if (i == 0) {
                first = place(1);
            } else {
                Letter gone = at(i);
                for (int j = i; j + 1 < count; j++) {
                    ring[place(j)] = at(j + 1);
                }
                ring[place(count - 1)] = gone;
            }
            count--;
        }

        /** All LETTERS to one go: how many. */
        int removeTo(int receiver) {
            int left = 0;
            for (int i = 0; i < count; i++) {
                Letter l = at(i);
                if (l.receiver != receiver) {
                    ring[place(i)] = at(left);
                    ring[place(left)] = l;
                    left++;
                }
            }
            int gone = count - left;
            count = left;
            return gone;
        }

        boolean canCome(int i) {
            Letter l = at(i);
            return !hasAhead(i, l.sender, l.receiver);
        }

        /** Whether one of the first n LETTERS goes from the one to the other. */
        boolean hasAhead(int n, int sender, int receiver) {
            for (int i = 0; i < n && i < count; i++) {
                Letter l = at(i);
                if (l.sender == sender && l.receiver == receiver) {
                    return true;
                }
            }
            return false;
        }

        void copyFrom(Row other) {
            first = 0;
            count = other.count;
            spilt = other.spilt;
            for (int i = 0; i < count; i++) {
                at(i).copyFrom(other.at(i));
            }
        }
    }

    /** What a NODE lacks of a TALE: who told of it, and when it asks one of them. */
    private static final class Miss {
        boolean open = false;
        int hour = 0;
        final NodeList tellers = new NodeList(MOST_ACTIVE);

        void end() {
            open = false;
            hour = 0;
            tellers.clear();
        }

        void copyFrom(Miss other) {
            open = other.open;
            hour = other.hour;
            tellers.copyFrom(other.tellers);
        }
    }

    private static final class Node {
        final int number;
        boolean live = false;
        final NodeList active = new NodeList(MOST_ACTIVE);
        final NodeList passive = new NodeList(MOST_PASSIVE);
        int lazy = 0;
        int asks = NONE;
        int asked = 0;
        int arrived = 0;
        final int[] hops = new int[MOST_TALES];
        final Miss[] misses = new Miss[MOST_TALES];

        Node(int number) {
            this.number = number;
            for (int t = 0; t < MOST_TALES; t++) {
                hops[t] = NONE;
                misses[t] = new Miss();
            }
        }

        /** Makes it a new one: a place is used anew after back(k). */
        void begin() {
            live = true;
            active.clear();
            passive.clear();
            lazy = 0;
            asks = NONE;
            asked = 0;
            arrived = 0;
            for (int t = 0; t < MOST_TALES; t++) {
                hops[t] = NONE;
                misses[t].end();
            }
        }

        boolean isLazy(int q) {
            return (lazy & 1 << q) != 0;
        }

        void makeLazy(int q) {
            lazy |= 1 << q;
        }

        void makeEager(int q) {
            lazy &= ~(1 << q);
        }

        int hopsOf(int t) {
            return t >= 0 && t < MOST_TALES ? hops[t] : NONE;
        }

        Miss missOf(int t) {
            return t >= 0 && t < MOST_TALES ? misses[t] : misses[0];
        }

        boolean knows(int t) {
            return hopsOf(t) != NONE;
        }

        void learn(int t, int newHops) {
            if (t >= 0 && t < MOST_TALES) {
                hops[t] = newHops;
                misses[t].end();
            }
        }

        int heardCount() {
            int count = 0;
            for (int t = 0; t < MOST_TALES; t++) {
                count += knows(t) ? 1 : 0;
            }
            return count;
        }

        int missedCount() {
            int count = 0;
            for (int t = 0; t < MOST_TALES; t++) {
                count += misses[t].open ? 1 : 0;
            }
            return count;
        }

        /** q leaves the ACTIVE view, and is no longer one who told of what is MISSED. */
        void unlink(int q) {
            active.remove(q);
            makeEager(q);
            for (int t = 0; t < MOST_TALES; t++) {
                misses[t].tellers.remove(q);
            }
        }

        void copyFrom(Node other) {
            live = other.live;
            active.copyFrom(other.active);
            passive.copyFrom(other.passive);
            lazy = other.lazy;
            asks = other.asks;
            asked = other.asked;
            arrived = other.arrived;
            for (int t = 0; t < MOST_TALES; t++) {
                hops[t] = other.hopsOf(t);
                misses[t].copyFrom(other.missOf(t));
            }
        }

        boolean looksLike(Node other) {
            if (!active.isSameAs(other.active) || !passive.isSameAs(other.passive)) {
                return false;
            }
            if (lazy != other.lazy) {
                return false;
            }
            for (int t = 0; t < MOST_TALES; t++) {
                if (hops[t] != other.hopsOf(t)) {
                    return false;
                }
            }
            return true;
        }
    }

    /** All that keep(k) keeps, and what every kind of letter needs: sending and drawing. */
    private static final class World {
        final Coins coins;
        final Sizes sizes = new Sizes();
        final Node[] nodes = new Node[MOST_NODES];
        final Node nobody = new Node(0);
        final Row row = new Row();
        final Letter coming = new Letter();
        final int[] arrivals = new int[STOPPED + 1];
        int nodeCount = 0, taleCount = 0, time = 0, nextCoin = 0;

        World(Coins coins) {
            this.coins = coins;
            for (int n = 0; n < MOST_NODES; n++) {
                nodes[n] = new Node(n);
            }
        }

        boolean isNode(int n) {
            return n >= 0 && n < nodeCount && n < MOST_NODES;
        }

        boolean isTale(int t) {
            return t >= 0 && t < taleCount;
        }

        Node nodeAt(int n) {
            return isNode(n) ? nodes[n] : nobody;
        }

        int openNode() {
            if (nodeCount >= MOST_NODES) {
                return FULL;
            }
            nodes[nodeCount].begin();
            nodeCount++;
            return nodeCount - 1;
        }

        /** Which of n is DRAWN; NONE of 0. */
        int draw(int n) {
            if (n <= 0) {
                return NONE;
            }
            if (n == 1 || coins.count == 0) {
                return 0;
            }
            int value = coins.at(nextCoin);
            nextCoin = coins.behind(nextCoin);
            return value % n;
        }

        /** In the place of what is sent to a stopped NODE comes a LETTER 12 from it; null: SPILT. */
        Letter send(int from, int to, int kind, int x, int y) {
            Letter l = row.open();
            if (l == null) {
                return null;
            }
            if (nodeAt(to).live) {
                l.write(from, to, kind, x, y);
            } else {
                l.write(to, from, STOPPED, 0, 0);
            }
            return l;
        }

        void sendList(int from, int to, int kind, int x, int y, NodeList list) {
            Letter l = send(from, to, kind, x, y);
            if (l != null && l.kind == kind) {
                l.list.copyFrom(list);
            }
        }

        /** A copy, since what it does may write its place in the ROW anew. */
        Letter takeLetter(int i) {
            coming.copyFrom(row.at(i));
            row.removeAt(i);
            arrivals[0]++;
            if (coming.kind >= JOIN && coming.kind <= STOPPED) {
                arrivals[coming.kind]++;
            }
            nodeAt(coming.receiver).arrived++;
            return coming;
        }

        int halt(Node n) {
            n.live = false;
            int gone = row.removeTo(n.number);
            for (int m = 0; m < nodeCount; m++) {
                if (nodeAt(m).live && mustLearnOfStop(nodeAt(m), n.number)) {
                    send(n.number, m, STOPPED, 0, 0);
                }
            }
            return gone;
        }

        boolean mustLearnOfStop(Node m, int stopped) {
            if (m.active.has(stopped) || m.asks == stopped) {
                return true;
            }
            return row.hasAhead(row.count, stopped, m.number);
        }

        int liveCount() {
            int count = 0;
            for (int n = 0; n < nodeCount; n++) {
                count += nodeAt(n).live ? 1 : 0;
            }
            return count;
        }

        int hearersOf(int t) {
            int count = 0;
            for (int n = 0; n < nodeCount; n++) {
                count += nodeAt(n).live && nodeAt(n).knows(t) ? 1 : 0;
            }
            return count;
        }

        boolean isEven() {
            for (int n = 0; n < nodeCount; n++) {
                if (nodeAt(n).live && hasOneSidedLink(nodeAt(n))) {
                    return false;
                }
            }
            return true;
        }

        boolean hasOneSidedLink(Node n) {
            for (int i = 0; i < n.active.count; i++) {
                Node other = nodeAt(n.active.at(i));
                if (other.live && !other.active.has(n.number)) {
                    return true;
                }
            }
            return false;
        }

        int reachFrom(int start) {
            int reached = 1 << start;
            // each round reaches one NODE more at least, or it is the last that matters
            for (int round = 0; round < MOST_NODES; round++) {
                for (int n = 0; n < nodeCount; n++) {
                    if ((reached & 1 << n) != 0) {
                        reached |= liveLinksOf(nodeAt(n));
                    }
                }
            }
            return Integer.bitCount(reached);
        }

        int liveLinksOf(Node n) {
            int links = 0;
            for (int i = 0; i < n.active.count; i++) {
                int q = n.active.at(i);
                links |= nodeAt(q).live ? 1 << q : 0;
            }
            return links;
        }

        int firstOtherNode(World other) {
            for (int n = 0; n < nodeCount || n < other.nodeCount; n++) {
                if (!isNode(n) || !other.isNode(n) || !nodeAt(n).looksLike(other.nodeAt(n))) {
                    return n;
                }
            }
            return NONE;
        }

        void copyFrom(World other) {
            sizes.copyFrom(other.sizes);
            nodeCount = other.nodeCount;
            taleCount = other.taleCount;
            time = other.time;
            nextCoin = other.nextCoin;
            for (int n = 0; n < nodeCount; n++) {
                nodeAt(n).copyFrom(other.nodeAt(n));
            }
            row.copyFrom(other.row);
            for (int kind = 0; kind <= STOPPED; kind++) {
                arrivals[kind] = other.arrivals[kind];
            }
        }
    }

    /** How links are made, dropped, mended and mixed: KINDS 1 to 8 and 12. */
    private static final class Views {
        final World world;
        final Sizes sizes;
        final NodeList pool = new NodeList(MOST_PASSIVE);
        final NodeList listed = new NodeList(MOST_LISTED);

        Views(World world) {
            this.world = world;
            this.sizes = world.sizes;
        }

        void send(Node from, int to, int kind, int x, int y) {
            world.send(from.number, to, kind, x, y);
        }

        void fillPool(NodeList from, int without, int orWithout) {
            pool.clear();
            for (int i = 0; i < from.count; i++) {
                int q = from.at(i);
                if (q != without && q != orWithout) {
                    pool.put(q);
                }
            }
        }

        /** One DRAWN of the pool, which leaves it; NONE if it is empty. */
        int drawOfPool() {
            int i = world.draw(pool.count);
            int q = pool.at(i);
            pool.removeAt(i);
            return q;
        }

        void listFromPool(int most) {
            for (int i = 0; i < most && pool.count > 0; i++) {
                listed.put(drawOfPool());
            }
        }

        boolean isFull(Node r) {
            return r.active.count >= sizes.active;
        }

        void add(Node r, int q) {
            if (q == r.number || r.active.has(q)) {
                return;
            }
            r.passive.remove(q);
            if (isFull(r)) {
                drop(r, r.active.at(world.draw(r.active.count)));
            }
            r.active.put(q);
            r.makeEager(q);
            if (r.asks == q) {
                r.asks = NONE;
            }
        }

        void drop(Node r, int q) {
            world.send(r.number, q, PARTING, 0, 0);
            r.unlink(q);
            note(r, q);
        }

        void note(Node r, int q) {
            if (q == r.number || r.active.has(q) || r.passive.has(q)) {
                return;
            }
            if (r.passive.count >= sizes.passive) {
                r.passive.removeAt(world.draw(r.passive.count));
            }
            r.passive.put(q);
        }

        void mend(Node r) {
            if (isFull(r) || r.asks != NONE) {
                return;
            }
            pool.clear();
            for (int i = 0; i < r.passive.count; i++) {
                int q = r.passive.at(i);
                if ((r.asked & 1 << q) == 0) {
                    pool.put(q);
                }
            }
            int chosen = drawOfPool();
            if (chosen == NONE) {
                r.asked = 0;
                return;
            }
            r.asks = chosen;
            send(r, chosen, ASKING, r.active.count == 0 ? 1 : 0, 0);
        }

        void onJoin(Node r, int s) {
            add(r, s);
            for (int i = 0; i < r.active.count; i++) {
                int q = r.active.at(i);
                if (q != s) {
                    send(r, q, WALK, s, sizes.longWalk);
                }
            }
            send(r, s, WELCOME, 0, 0);
        }

        void onWalk(Node r, int s, int x, int y) {
            if (x == r.number) {
                return;
            }
            int next = NONE;
            if (y > 0 && r.active.count > 1) {
                if (y == sizes.shortWalk) {
                    note(r, x);
                }
                fillPool(r.active, s, x);
                next = drawOfPool();
            }
            if (next != NONE) {
                send(r, next, WALK, x, y - 1);
            } else if (!r.active.has(x)) {
                add(r, x);
                send(r, x, WELCOME, 0, 0);
            }
        }

        void onWelcome(Node r, int s) {
            add(r, s);
            r.asked = 0;
        }

        void onParting(Node r, int s) {
            if (r.active.has(s)) {
                r.unlink(s);
                note(r, s);
                mend(r);
            }
        }

        void onAsking(Node r, int s, int x) {
            if (x == 1 || !isFull(r) || r.active.has(s)) {
                add(r, s);
                send(r, s, WELCOME, 0, 0);
            } else {
                send(r, s, REFUSAL, 0, 0);
            }
        }

        void onRefusal(Node r, int s) {
            if (r.asks == s) {
                r.asks = NONE;
                r.asked |= 1 << s;
                mend(r);
            }
        }

        void onMix(Node r, Letter l) {
            int next = NONE;
            if (l.y > 1) {
                fillPool(r.active, l.sender, l.x);
                next = drawOfPool();
            }
            if (next != NONE) {
                world.sendList(r.number, next, MIX, l.x, l.y - 1, l.list);
                return;
            }
            if (l.x != r.number) {
                answerMix(r, l.x, l.list.count);
            }
            takeList(r, l.list);
        }

        void answerMix(Node r, int to, int most) {
            listed.clear();
            fillPool(r.passive, NONE, NONE);
            listFromPool(most);
            world.sendList(r.number, to, MIXED, 0, 0, listed);
        }

        void takeList(Node r, NodeList list) {
            for (int i = 0; i < list.count; i++) {
                note(r, list.at(i));
            }
        }

        void onStopped(Node r, int s) {
            r.unlink(s);
            r.passive.remove(s);
            if (r.asks == s) {
                r.asks = NONE;
            }
            mend(r);
        }

        int beginMix(Node n) {
            fillPool(n.active, NONE, NONE);
            int to = drawOfPool();
            if (to == NONE) {
                return NO;
            }
            listed.clear();
            listed.put(n.number);
            listFromPool(2);
            fillPool(n.passive, NONE, NONE);
            listFromPool(2);
            world.sendList(n.number, to, MIX, n.number, sizes.longWalk, listed);
            return to;
        }
    }

    /** How TALES are told, noted, asked for: KINDS 9 to 11, and the TICK. */
    private static final class Tales {
        final World world;

        Tales(World world) {
            this.world = world;
        }

        void send(Node from, int to, int kind, int x, int y) {
            world.send(from.number, to, kind, x, y);
        }

        void hear(Node r, int tale, int hops, int sender) {
            r.learn(tale, hops);
            for (int i = 0; i < r.active.count; i++) {
                int q = r.active.at(i);
                if (q != sender && !r.isLazy(q)) {
                    send(r, q, TELL, tale, hops + 1);
                }
            }
            for (int i = 0; i < r.active.count; i++) {
                int q = r.active.at(i);
                if (q != sender && r.isLazy(q)) {
                    send(r, q, NOTE, tale, 0);
                }
            }
        }

        void onTell(Node r, int s, int tale, int hops) {
            if (!r.active.has(s)) {
                return;
            }
            if (r.knows(tale)) {
                r.makeLazy(s);
                send(r, s, CHOICE, 0, 0);
            } else {
                r.makeEager(s);
                hear(r, tale, hops, s);
            }
        }

        void onNote(Node r, int s, int tale) {
            if (!r.active.has(s) || r.knows(tale)) {
                return;
            }
            Miss miss = r.missOf(tale);
            if (!miss.open) {
                miss.open = true;
                miss.hour = world.time + world.sizes.wait;
            }
            if (!miss.tellers.has(s)) {
                miss.tellers.put(s);
            }
        }

        void onChoice(Node r, int s, int tale, int choice) {
            if (!r.active.has(s)) {
                return;
            }
            if (choice == 0) {
                r.makeLazy(s);
                return;
            }
            r.makeEager(s);
            if (r.knows(tale)) {
                send(r, s, TELL, tale, r.hopsOf(tale) + 1);
            }
        }

        int pass() {
            world.time++;
            for (int n = 0; n < world.nodeCount; n++) {
                if (world.nodeAt(n).live) {
                    fetchDue(world.nodeAt(n));
                }
            }
            return world.time;
        }

        void fetchDue(Node n) {
            for (int t = 0; t < world.taleCount; t++) {
                Miss miss = n.missOf(t);
                if (miss.open && miss.hour <= world.time) {
                    fetch(n, t, miss);
                }
            }
        }

        void fetch(Node n, int tale, Miss miss) {
            if (miss.tellers.count == 0) {
                miss.end();
                return;
            }
            int first = miss.tellers.at(0);
            miss.tellers.removeAt(0);
            n.makeEager(first);
            send(n, first, CHOICE, tale, 1);
            miss.hour = world.time + Math.max(world.sizes.wait / 2, 1);
        }
    }
}
