import java.math.BigInteger;
import java.util.ArrayList;
import java.util.List;

/**
 * The document told another way, to be held against the program: it keeps what happened (each
 * packet's way, each sounding) and works every answer out anew from that, with no regard to cost.
 */
final class Model {
    private static final int GONE = -1000000000;
    private static final int UNKNOWN = -1, OUTSIDE = -2, STATE = -3, FULL = -4, NO = -5, NONE = -6;

    /** A packet's block, and what the clocks showed at the nodes to which it came. */
    private record Packet(int block, List<Integer> shown) { }

    /** What a sounding told of APART of two nodes. */
    private record Sounding(int from, int to, int low, int high) { }

    private static final class Scene {
        final int many;
        int time = 0;
        int block = 5;
        int[][] links = new int[4][];
        int[] clocks = new int[5];
        List<Packet> packets = new ArrayList<>();
        List<Sounding> soundings = new ArrayList<>();

        Scene(int many) {
            this.many = many;
            for (int l = 0; l < links.length; l++) {
                links[l] = new int[] {5, 0, 5, 0, 0, 0};
            }
        }

        Scene copy() {
            Scene c = new Scene(many);
            c.time = time;
            c.block = block;
            for (int l = 0; l < links.length; l++) {
                c.links[l] = links[l].clone();
            }
            c.clocks = clocks.clone();
            c.packets = new ArrayList<>(packets);
            c.soundings = new ArrayList<>(soundings);
            return c;
        }
    }

    private Scene s = new Scene(3);
    private final Scene[] images = new Scene[2];

    private boolean noNode(int node) {
        return node < 0 || node >= s.many;
    }

    private boolean noLink(int link) {
        return link < 0 || link >= s.many - 1;
    }

    int nodes(int v) {
        if (v < 2 || v > 5) return OUTSIDE;
        int was = s.many;
        s = new Scene(v);
        return was;
    }

    int link(int link, int what, int v) {
        if (noLink(link)) return UNKNOWN;
        if (what < 0 || what > 5) return OUTSIDE;
        boolean base = what == 0 || what == 2;
        if (v < (base ? 1 : 0) || v > (base ? 20 : 9)) return OUTSIDE;
        int was = s.links[link][what];
        s.links[link][what] = v;
        return was;
    }

    int clock(int node, int v) {
        if (noNode(node)) return GONE + UNKNOWN;
        if (v < -99 || v > 99) return GONE + OUTSIDE;
        if (!s.packets.isEmpty()) return GONE + STATE;
        int was = s.clocks[node];
        s.clocks[node] = v;
        s.soundings.removeIf(q -> q.from() == node || q.to() == node);
        return was;
    }

    int block(int v) {
        if (v < 1 || v > 20) return OUTSIDE;
        if (!s.packets.isEmpty()) return STATE;
        int was = s.block;
        s.block = v;
        return was;
    }

    int pause(int n) {
        if (n < 1 || n > 999) return OUTSIDE;
        if (s.time + n > 9999) return FULL;
        return s.time += n;
    }

    int send(int n) {
        if (n < 1 || n > 60) return OUTSIDE;
        if (s.packets.size() + n > 200 || s.time + n > 9999) return FULL;
        int came = 0;
        for (int i = 0; i < n; i++) {
            Packet p = way(s.packets.size(), s.time++);
            s.packets.add(p);
            if (p.shown().size() == s.many) came++;
        }
        return came;
    }

    private Packet way(int number, int start) {
        List<Integer> shown = new ArrayList<>();
        int t = start;
        int node = 0;
        shown.add(t + s.clocks[0]);
        while (node < s.many - 1) {
            int[] l = s.links[node];
            if (l[4] > 0 && number % l[4] == l[5]) break;
            t += l[0] + t % (l[1] + 1);
            node++;
            shown.add(t + s.clocks[node]);
        }
        return new Packet(number / s.block, shown);
    }

    private int countAt(int node, int b) {
        int n = 0;
        for (Packet p : s.packets) {
            if (p.block() == b && p.shown().size() > node) n++;
        }
        return n;
    }

    private int sumAt(int node, int b) {
        int sum = 0;
        for (Packet p : s.packets) {
            if (p.block() == b && p.shown().size() > node) sum += p.shown().get(node);
        }
        return sum;
    }

    int kept(int node, int b, int what) {
        if (noNode(node)) return GONE + UNKNOWN;
        if (b < 0 || b > 199 || what < 0 || what > 1) return GONE + OUTSIDE;
        return what == 0 ? countAt(node, b) : sumAt(node, b);
    }

    /** A packet that came to as many nodes as there are ahead of a link was lost on that link. */
    int lost(int link, int b) {
        if (noLink(link)) return UNKNOWN;
        if (b < -1 || b > 199) return OUTSIDE;
        int n = 0;
        for (Packet p : s.packets) {
            if ((b == -1 || p.block() == b) && p.shown().size() == link + 1) n++;
        }
        return n;
    }

    private static int part(long upper, long lower, int part) {
        BigInteger u = BigInteger.valueOf(upper);
        BigInteger l = BigInteger.valueOf(lower);
        BigInteger g = u.gcd(l);
        return (part == 0 ? u : l).divide(g).intValueExact();
    }

    int took(int from, int to, int b, int part) {
        if (noNode(from) || noNode(to)) return GONE + UNKNOWN;
        if (to <= from || b < 0 || b > 199 || part < 0 || part > 1) return GONE + OUTSIDE;
        int n = countAt(from, b);
        if (n == 0 || n != countAt(to, b)) return GONE + NO;
        return part(sumAt(to, b) - sumAt(from, b), n, part);
    }

    int first(int limit, int what) {
        if (limit < 0 || limit > 20 || what < 0 || what > 2) return OUTSIDE;
        for (int b = 0; b < 200; b++) {
            int all = 0;
            int firstLink = -1;
            for (int l = 0; l < s.many - 1; l++) {
                int here = lost(l, b);
                all += here;
                if (here > 0 && firstLink < 0) firstLink = l;
            }
            if (all > limit) return what == 0 ? b : what == 1 ? firstLink : lost(firstLink, b);
        }
        return NONE;
    }

    int sound(int from, int to) {
        if (noNode(from) || noNode(to)) return UNKNOWN;
        if (to <= from) return OUTSIDE;
        if (s.time + 1 > 9999) return FULL;
        int t = s.time;
        for (int l = from; l < to; l++) t += s.links[l][0] + t % (s.links[l][1] + 1);
        int turned = t;
        for (int l = to - 1; l >= from; l--) t += s.links[l][2] + t % (s.links[l][3] + 1);
        int t1 = s.time + s.clocks[from];
        int t2 = turned + s.clocks[to];
        int t4 = t + s.clocks[from];
        int n = to - from;
        s.soundings.add(new Sounding(from, to, t2 - t4 + n, t2 - t1 - n));
        return t - s.time++;
    }

    /** LOW or HIGH, or null. */
    private Integer bound(int from, int to, boolean high) {
        Integer best = null;
        for (Sounding q : s.soundings) {
            if (q.from() != from || q.to() != to) continue;
            int v = high ? q.high() : q.low();
            if (best == null || (high ? v < best : v > best)) best = v;
        }
        return best;
    }

    int apart(int from, int to, int what) {
        if (noNode(from) || noNode(to)) return GONE + UNKNOWN;
        if (to <= from || what < 0 || what > 1) return GONE + OUTSIDE;
        Integer v = bound(from, to, what == 1);
        return v == null ? GONE + NONE : v;
    }

    /** The least sum along every row of nodes that passes none of those in the set, or null. */
    private Integer least(int x, int y, int passed) {
        if (x == y) return 0;
        Integer best = null;
        for (int next = 0; next < s.many; next++) {
            if ((passed & 1 << next) != 0 || next == x) continue;
            Integer step = x < next ? bound(x, next, true) : bound(next, x, false);
            Integer rest = step == null ? null : least(next, y, passed | 1 << x);
            if (rest == null) continue;
            int sum = (x < next ? step : -step) + rest;
            if (best == null || sum < best) best = sum;
        }
        return best;
    }

    int tight(int x, int y) {
        if (noNode(x) || noNode(y)) return GONE + UNKNOWN;
        Integer v = least(x, y, 0);
        return v == null ? GONE + NONE : v;
    }

    int truth(int from, int to, int b, int what, int part) {
        if (noNode(from) || noNode(to)) return GONE + UNKNOWN;
        if (to <= from || b < 0 || b > 199 || what < 0 || what > 1 || part < 0 || part > 1) return GONE + OUTSIDE;
        int upper = took(from, to, b, 0);
        int lower = took(from, to, b, 1);
        if (upper == GONE + NO) return GONE + NO;
        Integer v = what == 0 ? least(to, from, 0) : least(from, to, 0);
        if (v == null) return GONE + NONE;
        return part(what == 0 ? upper + (long) v * lower : upper - (long) v * lower, lower, part);
    }

    int image(int k) {
        if (k != 0 && k != 1) return OUTSIDE;
        images[k] = s.copy();
        return 1;
    }

    int restore(int k) {
        if (k != 0 && k != 1) return OUTSIDE;
        if (images[k] == null) return STATE;
        s = images[k].copy();
        return 1;
    }

    int count(int what) {
        switch (what) {
            case 0: return s.many;
            case 1: return s.time;
            case 2: return s.packets.size();
            case 3: return s.block;
            case 4: return (int) s.packets.stream().map(Packet::block).distinct().count();
            case 5: return (int) s.soundings.stream().map(q -> q.from() * 10 + q.to()).distinct().count();
            case 6: return (images[0] == null ? 0 : 1) + (images[1] == null ? 0 : 2);
            default: break;
        }
        for (int l = 0; l < s.many - 1; l++) {
            for (int w = 0; w < 6; w++) {
                if (what == 10 + 10 * l + w) return s.links[l][w];
            }
        }
        return OUTSIDE;
    }
}
