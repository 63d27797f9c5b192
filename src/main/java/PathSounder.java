import java.util.Arrays;

/** Paths that are sounded: packets and soundings along a row of nodes whose clocks are wrong. */
public final class PathSounder {
    public static final int UNKNOWN = -1, OUTSIDE = -2, STATE = -3, FULL = -4, NO = -5, NONE = -6;
    public static final int GONE = -1000000000;

    private static final int FEWEST_NODES = 2, MOST_NODES = 5, NODES_AT_FIRST = 3;
    private static final int MOST_LINKS = MOST_NODES - 1;
    private static final int MOST_CLOCK = 99;
    private static final int MOST_BLOCK = 20, BLOCK_AT_FIRST = 5;
    private static final int MOST_PAUSE = 999, LAST_TIME = 9999;
    private static final int MOST_AT_ONCE = 60, MOST_PACKETS = 200;
    /** With a BLOCK of 1 each packet has a block of its own. */
    private static final int MOST_BLOCKS = MOST_PACKETS;
    private static final int ALL_BLOCKS = -1;
    private static final int MOST_LIMIT = 20;

    /** What is told of a link, by what: its places in the rows below. */
    private static final int BASE_THERE = 0, WAVE_THERE = 1, BASE_BACK = 2, WAVE_BACK = 3, EVERY = 4, WHICH = 5;
    private static final int LINK_NUMBERS = 6;
    private static final int[] LINK_LEAST = {1, 0, 1, 0, 0, 0};
    private static final int[] LINK_MOST = {20, 9, 20, 9, 9, 9};
    private static final int[] LINK_AT_FIRST = {5, 0, 5, 0, 0, 0};

    /** Stands where a call is not refused; every refusal is below it. */
    private static final int FINE = 0;
    /** Stands where no bound is known; far above every sum of bounds. */
    private static final int NO_BOUND = 1000000000;

    private final World now = new World();
    private final World image0 = new World();
    private final World image1 = new World();
    private int imagesKept = 0;

    public PathSounder() {
        now.begin(NODES_AT_FIRST);
    }

    public int nodes(int v) {
        if (!within(v, FEWEST_NODES, MOST_NODES)) {
            return OUTSIDE;
        }
        int was = now.many;
        now.begin(v);
        return was;
    }

    public int link(int link, int what, int v) {
        if (!now.hasLink(link)) {
            return UNKNOWN;
        }
        if (!within(what, 0, LINK_NUMBERS - 1) || !within(v, LINK_LEAST[what], LINK_MOST[what])) {
            return OUTSIDE;
        }
        int was = now.links.read(link, what);
        now.links.write(link, what, v);
        return was;
    }

    public int clock(int node, int v) {
        if (!now.hasNode(node)) {
            return GONE + UNKNOWN;
        }
        if (!within(v, -MOST_CLOCK, MOST_CLOCK)) {
            return GONE + OUTSIDE;
        }
        if (now.sent > 0) {
            return GONE + STATE;
        }
        int was = now.clocks[node];
        now.clocks[node] = v;
        now.bounds.forget(node);
        return was;
    }

    public int block(int v) {
        if (!within(v, 1, MOST_BLOCK)) {
            return OUTSIDE;
        }
        if (now.sent > 0) {
            return STATE;
        }
        int was = now.block;
        now.block = v;
        return was;
    }

    public int pause(int n) {
        if (!within(n, 1, MOST_PAUSE)) {
            return OUTSIDE;
        }
        if (now.time + n > LAST_TIME) {
            return FULL;
        }
        now.time += n;
        return now.time;
    }

    public int send(int n) {
        if (!within(n, 1, MOST_AT_ONCE)) {
            return OUTSIDE;
        }
        if (now.sent + n > MOST_PACKETS || now.time + n > LAST_TIME) {
            return FULL;
        }
        int arrived = 0;
        for (int i = 0; i < n; i++) {
            if (now.sendPacket()) {
                arrived++;
            }
        }
        return arrived;
    }

    public int kept(int node, int b, int what) {
        if (!now.hasNode(node)) {
            return GONE + UNKNOWN;
        }
        if (!isBlock(b) || !within(what, 0, 1)) {
            return GONE + OUTSIDE;
        }
        return what == 0 ? now.tally.countOf(node, b) : now.tally.sumOf(node, b);
    }

    public int lost(int link, int b) {
        if (!now.hasLink(link)) {
            return UNKNOWN;
        }
        if (b != ALL_BLOCKS && !isBlock(b)) {
            return OUTSIDE;
        }
        return b == ALL_BLOCKS ? now.tally.lostOfAll(link) : now.tally.lostBetween(link, link + 1, b);
    }

    public int took(int from, int to, int b, int part) {
        int refusal = tookRefusal(from, to, b, part);
        if (refusal != FINE) {
            return GONE + refusal;
        }
        if (!now.tally.hasTook(from, to, b)) {
            return GONE + NO;
        }
        return fractionPart(now.tally.tookUpper(from, to, b), now.tally.countOf(from, b), part);
    }

    public int first(int limit, int what) {
        if (!within(limit, 0, MOST_LIMIT) || !within(what, 0, 2)) {
            return OUTSIDE;
        }
        int b = now.firstBlockAbove(limit);
        if (!isBlock(b)) {
            return NONE;
        }
        if (what == 0) {
            return b;
        }
        int link = now.firstLinkThatLost(b);
        return what == 1 ? link : now.tally.lostBetween(link, link + 1, b);
    }

    public int sound(int from, int to) {
        int refusal = pairRefusal(from, to);
        if (refusal != FINE) {
            return refusal;
        }
        if (now.time + 1 > LAST_TIME) {
            return FULL;
        }
        return now.soundPath(from, to);
    }

    public int apart(int from, int to, int what) {
        int refusal = pairRefusal(from, to);
        if (refusal != FINE) {
            return GONE + refusal;
        }
        if (!within(what, 0, 1)) {
            return GONE + OUTSIDE;
        }
        if (!now.bounds.hasBoth(from, to)) {
            return GONE + NONE;
        }
        return what == 0 ? now.bounds.low(from, to) : now.bounds.high(from, to);
    }

    public int tight(int x, int y) {
        if (!now.hasNode(x) || !now.hasNode(y)) {
            return GONE + UNKNOWN;
        }
        int bound = now.bounds.tightest(x, y);
        return bound == NO_BOUND ? GONE + NONE : bound;
    }

    public int truth(int from, int to, int b, int what, int part) {
        int refusal = tookRefusal(from, to, b, part);
        if (refusal != FINE) {
            return GONE + refusal;
        }
        if (!within(what, 0, 1)) {
            return GONE + OUTSIDE;
        }
        if (!now.tally.hasTook(from, to, b)) {
            return GONE + NO;
        }
        int bound = what == 0 ? now.bounds.tightest(to, from) : now.bounds.tightest(from, to);
        if (bound == NO_BOUND) {
            return GONE + NONE;
        }
        int count = now.tally.countOf(from, b);
        int added = what == 0 ? bound * count : -bound * count;
        return fractionPart(now.tally.tookUpper(from, to, b) + added, count, part);
    }

    public int image(int k) {
        if (!within(k, 0, 1)) {
            return OUTSIDE;
        }
        imageAt(k).copyFrom(now);
        imagesKept |= 1 << k;
        return 1;
    }

    public int restore(int k) {
        if (!within(k, 0, 1)) {
            return OUTSIDE;
        }
        if ((imagesKept & (1 << k)) == 0) {
            return STATE;
        }
        now.copyFrom(imageAt(k));
        return 1;
    }

    public int count(int what) {
        switch (what) {
            case 0:
                return now.many;
            case 1:
                return now.time;
            case 2:
                return now.sent;
            case 3:
                return now.block;
            case 4:
                return now.tally.blocksSent();
            case 5:
                return now.bounds.pairs();
            case 6:
                return imagesKept;
            default:
                return linkNumber(what);
        }
    }

    /** Tells what of which link stands at 10, 10 times the link and what, added. */
    private int linkNumber(int place) {
        if (place < 10) {
            return OUTSIDE;
        }
        int link = place / 10 - 1;
        int what = place % 10;
        if (!now.hasLink(link) || !within(what, 0, LINK_NUMBERS - 1)) {
            return OUTSIDE;
        }
        return now.links.read(link, what);
    }

    private World imageAt(int k) {
        return k == 0 ? image0 : image1;
    }

    /** Why a node and a later one are refused, or FINE. */
    private int pairRefusal(int from, int to) {
        if (!now.hasNode(from) || !now.hasNode(to)) {
            return UNKNOWN;
        }
        return to > from ? FINE : OUTSIDE;
    }

    /** Why a block's way from a node to a later one is refused, or FINE. */
    private int tookRefusal(int from, int to, int b, int part) {
        int refusal = pairRefusal(from, to);
        if (refusal != FINE) {
            return refusal;
        }
        return isBlock(b) && within(part, 0, 1) ? FINE : OUTSIDE;
    }

    private static boolean isBlock(int b) {
        return within(b, 0, MOST_BLOCKS - 1);
    }

    private static boolean within(int v, int least, int most) {
        return v >= least && v <= most;
    }

    /** The upper (part 0) or lower (1) number of a fraction in lowest terms; lower is above 0. */
    private static int fractionPart(int upper, int lower, int part) {
        return quotient(part == 0 ? upper : lower, greatestDivisor(upper, lower));
    }

    /** Tries one by one: lower is a count of a block's packets, so 20 at most. */
    private static int greatestDivisor(int upper, int lower) {
        for (int d = lower; d > 1; d--) {
            if (upper % d == 0 && lower % d == 0) {
                return d;
            }
        }
        return 1;
    }

    /** Upper by lower, cut; no divisor here is below 1, but none is trusted to be. */
    private static int quotient(int upper, int lower) {
        return lower > 0 ? upper / lower : 0;
    }

    /** What upper leaves over by lower; guarded as quotient is. */
    private static int leftOver(int upper, int lower) {
        return lower > 0 ? upper % lower : 0;
    }

    /** All that an image keeps. */
    private static final class World {
        int many = NODES_AT_FIRST;
        int time = 0;
        int sent = 0;
        int block = BLOCK_AT_FIRST;
        final int[] clocks = new int[MOST_NODES];
        final Links links = new Links();
        final Tally tally = new Tally();
        final Bounds bounds = new Bounds();

        void begin(int howMany) {
            many = howMany;
            time = 0;
            sent = 0;
            block = BLOCK_AT_FIRST;
            Arrays.fill(clocks, 0);
            links.begin();
            tally.begin();
            bounds.begin();
        }

        void copyFrom(World other) {
            many = other.many;
            time = other.time;
            sent = other.sent;
            block = other.block;
            System.arraycopy(other.clocks, 0, clocks, 0, MOST_NODES);
            links.copyFrom(other.links);
            tally.copyFrom(other.tally);
            bounds.copyFrom(other.bounds);
        }

        boolean hasNode(int node) {
            return within(node, 0, many - 1);
        }

        boolean hasLink(int link) {
            return within(link, 0, many - 2);
        }

        /** Sends the next packet at TIME: whether it came to the last node. */
        boolean sendPacket() {
            int number = sent;
            int b = quotient(number, block);
            int at = time;
            sent++;
            time++;
            tally.add(0, b, at + clocks[0]);
            for (int link = 0; link < many - 1; link++) {
                if (links.drops(link, number)) {
                    return false;
                }
                at += links.ticksThere(link, at);
                tally.add(link + 1, b, at + clocks[link + 1]);
            }
            return true;
        }

        /** Sounds from a node to a later one at TIME: in how many ticks it is back. */
        int soundPath(int from, int to) {
            int there = time;
            for (int link = from; link < to; link++) {
                there += links.ticksThere(link, there);
            }
            int back = there;
            for (int link = to - 1; link >= from; link--) {
                back += links.ticksBack(link, back);
            }
            int t1 = time + clocks[from];
            int t2 = there + clocks[to];
            int t4 = back + clocks[from];
            int between = to - from;
            bounds.narrow(from, to, t2 - t1 - between, t2 - t4 + between);
            int ticks = back - time;
            time++;
            return ticks;
        }

        /** The first block of which all links together lost more than limit, or MOST_BLOCKS. */
        int firstBlockAbove(int limit) {
            for (int b = 0; b < MOST_BLOCKS; b++) {
                if (tally.lostBetween(0, many - 1, b) > limit) {
                    return b;
                }
            }
            return MOST_BLOCKS;
        }

        /** Is asked only of a block that lost some: if no link ahead did, the last one did. */
        int firstLinkThatLost(int b) {
            for (int link = 0; link < many - 2; link++) {
                if (tally.lostBetween(link, link + 1, b) > 0) {
                    return link;
                }
            }
            return many - 2;
        }
    }

    /** What is told of the links. */
    private static final class Links {
        private final int[] numbers = new int[MOST_LINKS * LINK_NUMBERS];

        void begin() {
            for (int link = 0; link < MOST_LINKS; link++) {
                System.arraycopy(LINK_AT_FIRST, 0, numbers, link * LINK_NUMBERS, LINK_NUMBERS);
            }
        }

        void copyFrom(Links other) {
            System.arraycopy(other.numbers, 0, numbers, 0, numbers.length);
        }

        int read(int link, int what) {
            return numbers[link * LINK_NUMBERS + what];
        }

        void write(int link, int what, int v) {
            numbers[link * LINK_NUMBERS + what] = v;
        }

        int ticksThere(int link, int time) {
            return read(link, BASE_THERE) + leftOver(time, read(link, WAVE_THERE) + 1);
        }

        int ticksBack(int link, int time) {
            return read(link, BASE_BACK) + leftOver(time, read(link, WAVE_BACK) + 1);
        }

        boolean drops(int link, int number) {
            int every = read(link, EVERY);
            return every > 0 && number % every == read(link, WHICH);
        }
    }

    /** COUNT and SUM of each node and block. */
    private static final class Tally {
        private final int[] counts = new int[MOST_NODES * MOST_BLOCKS];
        private final int[] sums = new int[MOST_NODES * MOST_BLOCKS];

        void begin() {
            Arrays.fill(counts, 0);
            Arrays.fill(sums, 0);
        }

        void copyFrom(Tally other) {
            System.arraycopy(other.counts, 0, counts, 0, counts.length);
            System.arraycopy(other.sums, 0, sums, 0, sums.length);
        }

        private static int cell(int node, int b) {
            return node * MOST_BLOCKS + b;
        }

        void add(int node, int b, int shown) {
            counts[cell(node, b)]++;
            sums[cell(node, b)] += shown;
        }

        int countOf(int node, int b) {
            return counts[cell(node, b)];
        }

        int sumOf(int node, int b) {
            return sums[cell(node, b)];
        }

        /** LOST of a block on all links from a node to a later one, added. */
        int lostBetween(int from, int to, int b) {
            return countOf(from, b) - countOf(to, b);
        }

        int lostOfAll(int link) {
            int lost = 0;
            for (int b = 0; b < MOST_BLOCKS; b++) {
                lost += lostBetween(link, link + 1, b);
            }
            return lost;
        }

        boolean hasTook(int from, int to, int b) {
            return countOf(from, b) > 0 && countOf(from, b) == countOf(to, b);
        }

        /** The upper number of TOOK; COUNT is the lower one. */
        int tookUpper(int from, int to, int b) {
            return sumOf(to, b) - sumOf(from, b);
        }

        /** Node 0 has every packet that was sent, so its counts tell of which blocks there are any. */
        int blocksSent() {
            int blocks = 0;
            for (int b = 0; b < MOST_BLOCKS; b++) {
                if (countOf(0, b) > 0) {
                    blocks++;
                }
            }
            return blocks;
        }
    }

    /**
     * HIGH and LOW of the pairs of nodes, held as one kind of bound: at (a, b) what the clock of b
     * less that of a is no more than. For a later b that is HIGH, for an earlier one LOW of (b, a)
     * with the sign turned, so that TIGHT is the least sum of steps that are all alike.
     */
    private static final class Bounds {
        private final int[] most = new int[MOST_NODES * MOST_NODES];
        /** The least sum yet from one node to each; kept here only to be used again. */
        private final int[] reach = new int[MOST_NODES];

        void begin() {
            Arrays.fill(most, NO_BOUND);
        }

        void copyFrom(Bounds other) {
            System.arraycopy(other.most, 0, most, 0, most.length);
        }

        private static int cell(int a, int b) {
            return a * MOST_NODES + b;
        }

        void forget(int node) {
            for (int other = 0; other < MOST_NODES; other++) {
                most[cell(node, other)] = NO_BOUND;
                most[cell(other, node)] = NO_BOUND;
            }
        }

        void narrow(int from, int to, int noMore, int noLess) {
            most[cell(from, to)] = Math.min(most[cell(from, to)], noMore);
            most[cell(to, from)] = Math.min(most[cell(to, from)], -noLess);
        }

        /** A sounding gives both bounds of a pair, so one of them tells of both. */
        boolean hasBoth(int from, int to) {
            return most[cell(from, to)] != NO_BOUND;
        }

        int high(int from, int to) {
            return most[cell(from, to)];
        }

        int low(int from, int to) {
            return -most[cell(to, from)];
        }

        int pairs() {
            int pairs = 0;
            for (int from = 0; from < MOST_NODES; from++) {
                for (int to = from + 1; to < MOST_NODES; to++) {
                    if (hasBoth(from, to)) {
                        pairs++;
                    }
                }
            }
            return pairs;
        }

        /**
         * TIGHT of x and y, or NO_BOUND. True clocks meet all bounds, so no way round is below 0 and
         * a least row passes no node twice: as many rounds as it can have steps find it.
         */
        int tightest(int x, int y) {
            Arrays.fill(reach, NO_BOUND);
            reach[x] = 0;
            for (int round = 1; round < MOST_NODES; round++) {
                for (int a = 0; a < MOST_NODES; a++) {
                    stepFrom(a);
                }
            }
            return reach[y];
        }

        private void stepFrom(int a) {
            if (reach[a] == NO_BOUND) {
                return;
            }
            for (int b = 0; b < MOST_NODES; b++) {
                int step = most[cell(a, b)];
                if (step != NO_BOUND) {
                    reach[b] = Math.min(reach[b], reach[a] + step);
                }
            }
        }
    }
}
