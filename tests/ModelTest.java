import java.math.BigInteger;
import java.util.ArrayList;
import java.util.List;
import java.util.NoSuchElementException;
import java.util.Random;
import java.util.TreeSet;

/**
 * Runs seeded chance calls on Burrowline and on a plain model of the document side by side. The model
 * is written apart from the class (whole rows of originals, sets of counters, BigInteger powers), so that
 * a slip in one of them shows as a difference.
 */
public final class ModelTest {
    static int wrong = 0;

    // ---------------------------------------------------------------- the model

    static final class Kept {
        long index, other, made, sending, receiving, sealed;
        boolean began;
        TreeSet<Long> took = new TreeSet<>();
    }

    static final class Pair {
        long known, flight = -1, flightSecret, flightTag, flightTime, stampTaken, stampSent;
        long cookie = -1, cookieTime;
        Kept[] slots = new Kept[3];
        List<long[]> waiting = new ArrayList<>();
    }

    static final class Let {
        long from, to;
        int kind, locked = -1;
        long[] f = new long[6], was = new long[6];

        Let twin() {
            Let t = new Let();
            t.from = from;
            t.to = to;
            t.kind = kind;
            t.locked = locked;
            t.f = f.clone();
            t.was = was.clone();
            return t;
        }
    }

    static final class Model {
        static final BigInteger P = BigInteger.valueOf(2039), Q = BigInteger.valueOf(65521);
        long now = 0, n = 0;
        long[] address = {10, 20, 30};
        boolean[] loaded = new boolean[3];
        List<List<int[]>> tables = new ArrayList<>();
        List<List<long[]>> outs = new ArrayList<>();
        Pair[][] pairs = new Pair[3][3];
        List<Let> net = new ArrayList<>();
        long[] drops = new long[11];

        Model() {
            for (int e = 0; e < 3; e++) {
                tables.add(new ArrayList<>());
                outs.add(new ArrayList<>());
                for (int p = 0; p < 3; p++) {
                    pairs[e][p] = new Pair();
                    pairs[e][p].known = address[p];
                }
            }
        }

        static long pow(long b, long e) {
            return BigInteger.valueOf(b).modPow(BigInteger.valueOf(e), P).longValue();
        }

        static long secretOfEnd(int e) {
            return 211 + 307L * e;
        }

        static long pub(long s) {
            return pow(7, s);
        }

        static long secretOf(long n) {
            return 1 + 577 * n % 1018;
        }

        static long mix(long... vs) {
            BigInteger m = BigInteger.valueOf(17);
            for (long v : vs) {
                m = m.multiply(BigInteger.valueOf(31)).add(BigInteger.valueOf(v + 2)).mod(Q);
            }
            return m.signum() == 0 ? 1 : m.longValue();
        }

        static long seal(long key, long... vs) {
            BigInteger sum = BigInteger.ZERO;
            for (int i = 0; i < vs.length; i++) {
                sum = sum.add(BigInteger.valueOf(key).pow(i + 1).multiply(BigInteger.valueOf(vs[i] + 2)));
            }
            return sum.mod(Q).longValue();
        }

        int give(int e, int inner) {
            int best = -1, bits = -1;
            for (int[] r : tables.get(e)) {
                int shift = 8 - r[1];
                if (r[1] > bits && inner >> shift == r[0] >> shift) {
                    best = r[2];
                    bits = r[1];
                }
            }
            return best;
        }

        boolean usable(Kept s) {
            return s != null && now - s.made < 30 && s.sealed < 40;
        }

        boolean fresh(Pair p) {
            return p.flight != -1 && now - p.flightTime < 5;
        }

        long goodCookie(Pair p) {
            return p.cookie != -1 && now - p.cookieTime < 60 ? p.cookie : -1;
        }

        void post(int e, long to, int kind, long... f) {
            if (net.size() == 60) {
                return;
            }
            Let l = new Let();
            l.from = address[e];
            l.to = to;
            l.kind = kind;
            System.arraycopy(f, 0, l.f, 0, f.length);
            l.was = l.f.clone();
            net.add(l);
        }

        long hello(int a, int b) {
            Pair p = pairs[a][b];
            n++;
            long x = secretOf(n);
            long stamp = Math.max(4 * now, p.stampSent + 1);
            p.stampSent = stamp;
            long key = mix(1, pow(pub(secretOfEnd(b)), x), pow(pub(secretOfEnd(b)), secretOfEnd(a)));
            long tag = seal(key, 1, n, pub(x), 10 * a + b, stamp);
            long c = goodCookie(p);
            post(a, p.known, 1, n, pub(x), 10 * a + b, stamp, tag, c == -1 ? 0 : mix(2, c, tag));
            p.flight = n;
            p.flightSecret = x;
            p.flightTag = tag;
            p.flightTime = now;
            return n;
        }

        void data(int e, int peer, long source, long dest, long load) {
            Pair p = pairs[e][peer];
            Kept s = p.slots[1];
            long tag = seal(s.sending, 4, s.other, s.sealed, source, dest, load);
            post(e, p.known, 4, s.other, s.sealed, source, dest, load, tag);
            s.sealed++;
        }

        void flush(int e, int peer) {
            Pair p = pairs[e][peer];
            while (!p.waiting.isEmpty() && usable(p.slots[1])) {
                long[] w = p.waiting.remove(0);
                data(e, peer, w[0], w[1], w[2]);
            }
        }

        long send(int e, int source, int dest, int load) {
            int peer = give(e, dest);
            if (peer == -1) {
                return -1;
            }
            Pair p = pairs[e][peer];
            Kept s = p.slots[1];
            if (usable(s)) {
                data(e, peer, source, dest, load);
                if (s.began && (now - s.made >= 20 || s.sealed >= 30) && !fresh(p)) {
                    hello(e, peer);
                }
                return 1;
            }
            p.waiting.add(new long[] {source, dest, load});
            if (p.waiting.size() > 4) {
                p.waiting.remove(0);
            }
            if (!fresh(p)) {
                hello(e, peer);
            }
            return 0;
        }

        int deliver(int place) {
            Let l = net.remove(place);
            int code = 0;
            for (int e = 0; e < 3; e++) {
                if (address[e] == l.to) {
                    code = l.kind == 1 ? gotHello(e, l) : l.kind == 2 ? gotReply(e, l)
                        : l.kind == 3 ? gotCookie(e, l) : gotData(e, l);
                    break;
                }
            }
            drops[code + 7]++;
            return code;
        }

        int gotHello(int e, Let l) {
            int a = (int) l.f[2] / 10, b = (int) l.f[2] % 10;
            if (b != e) {
                return -1;
            }
            long c = mix(6, secretOfEnd(e), now / 60, l.from);
            if (loaded[e] && l.f[5] != mix(2, c, l.f[4])) {
                long key = mix(3, pub(secretOfEnd(e)), l.f[4]);
                post(e, l.from, 3, l.f[0], c, seal(key, 3, l.f[0], c));
                return -7;
            }
            long k = mix(1, pow(l.f[1], secretOfEnd(e)), pow(pub(secretOfEnd(a)), secretOfEnd(e)));
            if (l.f[4] != seal(k, 1, l.f[0], l.f[1], l.f[2], l.f[3])) {
                return -2;
            }
            Pair p = pairs[e][a];
            if (l.f[3] <= p.stampTaken) {
                return -6;
            }
            p.stampTaken = l.f[3];
            p.known = l.from;
            n++;
            long y = secretOf(n);
            long key = mix(4, k, pow(l.f[1], y), pow(pub(secretOfEnd(a)), y));
            post(e, p.known, 2, n, l.f[0], pub(y), seal(key, 2, n, l.f[0], pub(y)));
            Kept s = new Kept();
            s.index = n;
            s.other = l.f[0];
            s.made = now;
            s.sending = mix(5, key, 1);
            s.receiving = mix(5, key, 0);
            p.slots[2] = s;
            return 3;
        }

        int gotReply(int e, Let l) {
            for (int b = 0; b < 3; b++) {
                Pair p = pairs[e][b];
                if (p.flight != l.f[1]) {
                    continue;
                }
                long x = p.flightSecret;
                long k = mix(1, pow(pub(secretOfEnd(b)), x), pow(pub(secretOfEnd(b)), secretOfEnd(e)));
                long key = mix(4, k, pow(l.f[2], x), pow(l.f[2], secretOfEnd(e)));
                if (l.f[3] != seal(key, 2, l.f[0], l.f[1], l.f[2])) {
                    return -2;
                }
                p.flight = -1;
                p.known = l.from;
                p.slots[0] = p.slots[1];
                Kept s = new Kept();
                s.index = l.f[1];
                s.other = l.f[0];
                s.made = now;
                s.sending = mix(5, key, 0);
                s.receiving = mix(5, key, 1);
                s.began = true;
                p.slots[1] = s;
                if (p.waiting.isEmpty()) {
                    data(e, b, -1, -1, -1);
                } else {
                    flush(e, b);
                }
                return 3;
            }
            return -1;
        }

        int gotCookie(int e, Let l) {
            for (int b = 0; b < 3; b++) {
                Pair p = pairs[e][b];
                if (p.flight == l.f[0]) {
                    long key = mix(3, pub(secretOfEnd(b)), p.flightTag);
                    if (l.f[2] != seal(key, 3, l.f[0], l.f[1])) {
                        return -2;
                    }
                    p.cookie = l.f[1];
                    p.cookieTime = now;
                    return 3;
                }
            }
            return -1;
        }

        int gotData(int e, Let l) {
            for (int b = 0; b < 3; b++) {
                for (int w = 0; w < 3; w++) {
                    Kept s = pairs[e][b].slots[w];
                    if (s != null && s.index == l.f[0]) {
                        return gotData(e, b, w, l);
                    }
                }
            }
            return -1;
        }

        int gotData(int e, int b, int w, Let l) {
            Pair p = pairs[e][b];
            Kept s = p.slots[w];
            if (now - s.made >= 30) {
                return -4;
            }
            if (l.f[5] != seal(s.receiving, 4, l.f[0], l.f[1], l.f[2], l.f[3], l.f[4])) {
                return -2;
            }
            long c = l.f[1];
            if (s.took.contains(c) || (!s.took.isEmpty() && c <= s.took.last() - 16)) {
                return -3;
            }
            s.took.add(c);
            p.known = l.from;
            if (w == 2) {
                p.slots[0] = p.slots[1];
                p.slots[1] = s;
                p.slots[2] = null;
                flush(e, b);
            }
            if (l.f[2] == -1 && l.f[3] == -1 && l.f[4] == -1) {
                return 2;
            }
            if (give(e, (int) l.f[2]) != b) {
                return -5;
            }
            outs.get(e).add(new long[] {b, l.f[2], l.f[3], l.f[4]});
            return 1;
        }

        int top(int prefix, int bits) {
            return prefix / (1 << (8 - bits)) * (1 << (8 - bits));
        }

        static void bounds(boolean isIn) {
            if (!isIn) {
                throw new IndexOutOfBoundsException();
            }
        }

        static void range(boolean isIn) {
            if (!isIn) {
                throw new IllegalArgumentException();
            }
        }

        static void stateIs(boolean isSo) {
            if (!isSo) {
                throw new IllegalStateException();
            }
        }

        static boolean in(long v, long least, long most) {
            return least <= v && v <= most;
        }

        void end(int e) {
            bounds(in(e, 0, 2));
        }

        Pair pair(int e, int p) {
            end(e);
            end(p);
            range(e != p);
            return pairs[e][p];
        }

        void place(int l) {
            bounds(in(l, 0, net.size() - 1));
        }

        long fields(int l, int what) {
            place(l);
            range(in(what, 0, 8));
            Let t = net.get(l);
            return what == 0 ? t.from : what == 1 ? t.to : what == 2 ? t.kind : t.f[what - 3];
        }

        boolean turned(int l) {
            place(l);
            Let t = net.get(l);
            return t.locked >= 0 && t.f[t.locked] != t.was[t.locked];
        }

        long session(int e, int p, int which, int what) {
            Pair q = pair(e, p);
            range(in(which, 0, 2) && in(what, 0, 8));
            Kept s = q.slots[which];
            if (s == null) {
                throw new NoSuchElementException();
            }
            long last = s.took.isEmpty() ? -1 : s.took.last();
            return new long[] {s.index, s.other, now - s.made, s.sealed, last, s.took.size(),
                s.sending, s.receiving, s.began ? 1 : 0}[what];
        }

        double mean() {
            long sum = 0, count = 0;
            for (Pair[] row : pairs) {
                for (Pair p : row) {
                    if (p.slots[1] != null) {
                        sum += now - p.slots[1].made;
                        count++;
                    }
                }
            }
            return count == 0 ? 0 : (double) sum / (double) count;
        }

        float share() {
            long all = 0;
            for (long d : drops) {
                all += d;
            }
            return all == 0 ? 0 : (float) drops[8] / (float) all;
        }

        long sum;

        void sum(long... vs) {
            for (long v : vs) {
                sum = 31 * sum + v;
            }
        }

        long checksum() {
            sum = 31;
            sum(now);
            for (int e = 0; e < 3; e++) {
                sum(address[e], loaded[e] ? 1 : 0, tables.get(e).size());
            }
            for (int e = 0; e < 3; e++) {
                for (int p = 0; p < 3; p++) {
                    if (p == e) {
                        continue;
                    }
                    Pair q = pairs[e][p];
                    sum(q.known, q.flight, q.stampTaken, q.waiting.size());
                    for (Kept s : q.slots) {
                        if (s == null) {
                            sum(-1);
                        } else {
                            sum(s.index, s.sending, s.sealed, s.took.size());
                        }
                    }
                }
            }
            for (List<long[]> o : outs) {
                sum(o.size());
                for (long[] packet : o) {
                    sum(packet[3]);
                }
            }
            for (Let l : net) {
                sum(l.from, l.to, l.kind);
                sum(l.f);
            }
            sum(drops);
            return sum;
        }

        /** One call by its name; the answer as a text. */
        String call(String name, int a, int b, int c, int d) {
            try {
                switch (name) {
                    case "pass":
                        range(in(a, 1, 60));
                        now += a;
                        return "" + now;
                    case "move": {
                        end(a);
                        range(in(b, 1, 99));
                        for (int e = 0; e < 3; e++) {
                            range(e == a || address[e] != b);
                        }
                        long was = address[a];
                        address[a] = b;
                        return "" + was;
                    }
                    case "load": {
                        end(a);
                        boolean was = loaded[a];
                        loaded[a] = b != 0;
                        return "" + was;
                    }
                    case "allow": {
                        pair(a, b);
                        range(in(c, 0, 255) && in(d, 0, 8));
                        List<int[]> table = tables.get(a);
                        for (int[] r : table) {
                            if (r[0] == top(c, d) && r[1] == d) {
                                r[2] = b;
                                return "" + table.size();
                            }
                        }
                        stateIs(table.size() < 8);
                        table.add(new int[] {top(c, d), d, b});
                        return "" + table.size();
                    }
                    case "forbid": {
                        end(a);
                        range(in(b, 0, 255) && in(c, 0, 8));
                        int t = top(b, c);
                        if (!tables.get(a).removeIf(r -> r[0] == t && r[1] == c)) {
                            throw new NoSuchElementException();
                        }
                        return "" + tables.get(a).size();
                    }
                    case "send":
                        end(a);
                        range(in(b, 0, 255) && in(c, 0, 255) && in(d, 0, 9999));
                        return "" + send(a, b, c, d);
                    case "keep": {
                        boolean is = usable(pair(a, b).slots[1]);
                        if (is) {
                            data(a, b, -1, -1, -1);
                        }
                        return "" + is;
                    }
                    case "greet":
                        stateIs(!fresh(pair(a, b)));
                        return "" + hello(a, b);
                    case "deliver":
                        place(a);
                        return "" + deliver(a);
                    case "lose":
                        place(a);
                        net.remove(a);
                        return "" + net.size();
                    case "twice":
                        place(a);
                        stateIs(net.size() < 60);
                        net.add(net.get(a).twin());
                        return "" + net.size();
                    case "turn": {
                        place(a);
                        Let l = net.get(a);
                        String can = new String[] {"", "34", "3", "12", "12345"}[l.kind];
                        range(in(b, 0, 5) && can.contains("" + b));
                        range(c != 0 && in(c, -500, 500));
                        range(Math.abs(l.f[b] + c - l.was[b]) <= 10000);
                        stateIs(l.locked == -1 || l.locked == b);
                        l.locked = b;
                        l.f[b] += c;
                        return "" + l.f[b];
                    }
                    case "reroute": {
                        place(a);
                        range(in(b, 1, 99));
                        long was = net.get(a).from;
                        net.get(a).from = b;
                        return "" + was;
                    }
                    case "later":
                        place(a);
                        net.add(net.remove(a));
                        return "" + (net.size() - 1);
                    default:
                        return look(name, a, b, c, d);
                }
            } catch (RuntimeException e) {
                return "throws." + e.getClass().getSimpleName();
            }
        }

        String look(String name, int a, int b, int c, int d) {
            switch (name) {
                case "now":
                    return "" + now;
                case "letters":
                    return "" + net.size();
                case "letter":
                    return "" + fields(a, b);
                case "isTurned":
                    return "" + turned(a);
                case "address":
                    end(a);
                    return "" + address[a];
                case "known":
                    return "" + pair(a, b).known;
                case "route":
                    end(a);
                    range(in(b, 0, 255));
                    return "" + give(a, b);
                case "session":
                    return "" + session(a, b, c, d);
                case "isUsable":
                    return "" + usable(pair(a, b).slots[1]);
                case "flight":
                    return "" + pair(a, b).flight;
                case "waiting":
                    return "" + pair(a, b).waiting.size();
                case "cookie":
                    return "" + goodCookie(pair(a, b));
                case "stamp":
                    return "" + (c != 0 ? pair(a, b).stampSent : pair(a, b).stampTaken);
                case "outs":
                    end(a);
                    return "" + outs.get(a).size();
                case "out":
                    end(a);
                    bounds(in(b, 0, outs.get(a).size() - 1));
                    range(in(c, 0, 3));
                    return "" + outs.get(a).get(b)[c];
                case "drops":
                    range(in(a, -7, 3));
                    return "" + drops[a + 7];
                case "publicOf":
                    range(in(a, 0, 1000000));
                    return "" + pub(a);
                case "shared":
                    range(in(a, 0, 1000000) && in(b, 1, 2038));
                    return "" + pow(b, a);
                case "seal":
                    range(in(a, 1, 65520) && in(b, -1, 9999) && in(c, -1, 9999) && in(d, -1, 9999));
                    return "" + seal(a, b, c, d);
                case "share":
                    return "" + share();
                case "meanAge":
                    return "" + mean();
                case "isSound":
                    return "true";
                default:
                    return "" + checksum();
            }
        }
    }

    // ---------------------------------------------------------------- the class, by the same names

    static String real(Burrowline x, String name, int a, int b, int c, int d) {
        try {
            switch (name) {
                case "pass": return "" + x.pass(a);
                case "move": return "" + x.move(a, b);
                case "load": return "" + x.load(a, b != 0);
                case "allow": return "" + x.allow(a, b, c, d);
                case "forbid": return "" + x.forbid(a, b, c);
                case "send": return "" + x.send(a, b, c, d);
                case "keep": return "" + x.keep(a, b);
                case "greet": return "" + x.greet(a, b);
                case "deliver": return "" + x.deliver(a);
                case "lose": return "" + x.lose(a);
                case "twice": return "" + x.twice(a);
                case "turn": return "" + x.turn(a, b, c);
                case "reroute": return "" + x.reroute(a, b);
                case "later": return "" + x.later(a);
                case "now": return "" + x.now();
                case "letters": return "" + x.letters();
                case "letter": return "" + x.letter(a, b);
                case "isTurned": return "" + x.isTurned(a);
                case "address": return "" + x.address(a);
                case "known": return "" + x.known(a, b);
                case "route": return "" + x.route(a, b);
                case "session": return "" + x.session(a, b, c, d);
                case "isUsable": return "" + x.isUsable(a, b);
                case "flight": return "" + x.flight(a, b);
                case "waiting": return "" + x.waiting(a, b);
                case "cookie": return "" + x.cookie(a, b);
                case "stamp": return "" + x.stamp(a, b, c != 0);
                case "outs": return "" + x.outs(a);
                case "out": return "" + x.out(a, b, c);
                case "drops": return "" + x.drops(a);
                case "publicOf": return "" + x.publicOf(a);
                case "shared": return "" + x.shared(a, b);
                case "seal": return "" + x.seal(a, b, c, d);
                case "share": return "" + x.share();
                case "meanAge": return "" + x.meanAge();
                case "isSound": return "" + x.isSound();
                default: return "" + x.checksum();
            }
        } catch (RuntimeException e) {
            // The class is to throw itself: what a list or the machine throws has another place on top.
            boolean isOwn = e.getStackTrace()[0].getClassName().startsWith("Burrowline");
            return (isOwn ? "throws." : "the library throws.") + e.getClass().getSimpleName();
        }
    }

    // ---------------------------------------------------------------- the driver

    static final String[] LOOKS = {"now", "letters", "letter", "isTurned", "address", "known", "route", "session",
        "isUsable", "flight", "waiting", "cookie", "stamp", "outs", "out", "drops", "publicOf", "shared", "seal",
        "share", "meanAge", "isSound", "checksum"};
    static final String[] DEEDS = {"pass", "move", "load", "allow", "forbid", "send", "keep", "greet", "deliver",
        "lose", "twice", "turn", "reroute", "later"};
    /** How often each deed comes, by the mood of the run. */
    static final int[][] MOODS = {
        {6, 2, 3, 3, 1, 20, 6, 6, 40, 2, 4, 6, 3, 6},
        {2, 1, 1, 1, 0, 60, 4, 2, 70, 1, 6, 4, 1, 12},
        {4, 0, 1, 1, 0, 50, 2, 4, 20, 0, 2, 1, 0, 2},
        {12, 1, 12, 1, 0, 10, 4, 30, 60, 1, 3, 6, 6, 2},
        {1, 0, 0, 1, 0, 30, 3, 1, 24, 0, 20, 30, 2, 4},
        {20, 10, 8, 10, 10, 20, 10, 20, 20, 10, 10, 10, 10, 10},
    };

    final Random random;
    final Model model = new Model();
    final Burrowline real = new Burrowline();
    final List<String> told = new ArrayList<>();
    final int seed;

    ModelTest(int seed) {
        this.seed = seed;
        this.random = new Random(seed);
    }

    int any(int least, int most) {
        return least + random.nextInt(most - least + 1);
    }

    boolean rarely(int of) {
        return random.nextInt(of) == 0;
    }

    int end() {
        return rarely(40) ? any(-2, 4) : any(0, 2);
    }

    int peer(int end) {
        return rarely(40) ? any(-2, 4) : (Math.floorMod(end, 3) + any(1, 2)) % 3;
    }

    int place(int size) {
        return rarely(40) || size == 0 ? any(-2, size + 2) : rarely(2) ? any(0, Math.min(size, 3) - 1) : any(0, size - 1);
    }

    int inner() {
        return rarely(60) ? (rarely(2) ? -1 : 256) : any(0, 255);
    }

    int spot() {
        return rarely(30) ? any(-1, 101) : rarely(3) ? 10 * any(1, 3) : any(1, 99);
    }

    boolean did(String name, int a, int b, int c, int d) {
        String want = model.call(name, a, b, c, d);
        String got = real(real, name, a, b, c, d);
        told.add(name + "(" + a + ", " + b + ", " + c + ", " + d + ") = " + got);
        if (!want.equals(got)) {
            wrong++;
            System.out.println("seed " + seed + ": " + name + " answered " + got + ", the model " + want);
            for (String line : told) {
                System.out.println("  " + line);
            }
        }
        return want.equals(got);
    }

    String deed(int[] mood) {
        int all = 0;
        for (int m : mood) {
            all += m;
        }
        int at = random.nextInt(all);
        int i = 0;
        while (at >= mood[i]) {
            at -= mood[i++];
        }
        return DEEDS[i];
    }

    boolean act(String name) {
        int e = end();
        int size = model.net.size();
        switch (name) {
            case "pass": {
                int most = rarely(4) ? 61 : rarely(3) ? 12 : 3;
                return did(name, any(rarely(9) ? 0 : 1, most), 0, 0, 0);
            }
            case "move": return did(name, e, spot(), 0, 0);
            case "load": return did(name, e, any(0, 1), 0, 0);
            case "allow": return did(name, e, peer(e), inner(), rarely(30) ? any(-1, 9) : rarely(2) ? any(0, 2) : any(0, 8));
            case "forbid": return did(name, e, inner(), rarely(30) ? any(-1, 9) : any(0, 3), 0);
            case "send": return did(name, e, inner(), inner(), rarely(30) ? any(-1, 0) + any(0, 1) * 10000 : any(0, 9999));
            case "keep": case "greet": return did(name, e, peer(e), 0, 0);
            case "turn": {
                int place = place(size);
                int field = any(-1, 6);
                if (place >= 0 && place < size && !rarely(4) && model.net.get(place).locked >= 0) {
                    field = model.net.get(place).locked;
                }
                int by = rarely(20) ? any(-1, 1) * 501 : rarely(3) ? any(-2, 2) : any(-500, 500);
                boolean good = did(name, place, field, by, 0);
                if (good && rarely(3)) {
                    good = did(name, place, field, -by, 0);
                }
                for (int i = 0; good && i < 22 && rarely(2); i++) {
                    good = did(name, place, field, by < 0 ? -500 : 500, 0);
                }
                return good;
            }
            case "reroute": return did(name, place(size), spot(), 0, 0);
            default: return did(name, place(size), 0, 0, 0);
        }
    }

    boolean look(String name) {
        int e = end();
        int size = model.net.size();
        switch (name) {
            case "letter": return did(name, place(size), any(-1, 9), 0, 0);
            case "isTurned": return did(name, place(size), 0, 0, 0);
            case "route": return did(name, e, inner(), 0, 0);
            case "out": {
                int many = e >= 0 && e < 3 ? model.outs.get(e).size() : 0;
                return did(name, e, place(many), any(-1, 4), 0);
            }
            case "drops": return did(name, any(-9, 5), 0, 0, 0);
            case "publicOf": return did(name, any(-1, 2) + any(0, 1) * 999999, 0, 0, 0);
            case "shared": return did(name, any(-1, 1001), any(-1, 2040), 0, 0);
            case "seal": return did(name, any(-1, 65522), any(-3, 10000), any(-2, 9999), any(-2, 10001));
            case "session": return did(name, e, peer(e), rarely(20) ? any(-1, 3) : any(0, 2), any(rarely(9) ? -1 : 0, rarely(9) ? 9 : 8));
            default: return did(name, e, peer(e), any(0, 1), 0);
        }
    }

    boolean lookAtAll() {
        for (int e = 0; e < 3; e++) {
            for (int p = 0; p < 3; p++) {
                for (String name : new String[] {"known", "isUsable", "flight", "waiting", "cookie"}) {
                    if (!did(name, e, p, 0, 0)) {
                        return false;
                    }
                }
                if (!did("stamp", e, p, 0, 0) || !did("stamp", e, p, 1, 0)) {
                    return false;
                }
                for (int w = 0; w < 3; w++) {
                    for (int what = 0; what < 9; what++) {
                        if (!did("session", e, p, w, what)) {
                            return false;
                        }
                    }
                }
            }
            for (int inner = 0; inner < 256; inner += 5) {
                if (!did("route", e, inner, 0, 0)) {
                    return false;
                }
            }
            for (int i = 0; i < model.outs.get(e).size(); i++) {
                for (int what = 0; what < 4; what++) {
                    if (!did("out", e, i, what, 0)) {
                        return false;
                    }
                }
            }
        }
        for (int i = 0; i < model.net.size(); i++) {
            if (!did("isTurned", i, 0, 0, 0)) {
                return false;
            }
        }
        return did("share", 0, 0, 0, 0) && did("meanAge", 0, 0, 0, 0) && did("isSound", 0, 0, 0, 0);
    }

    long[] run() {
        int[] mood = MOODS[seed % MOODS.length];
        for (int e = 0; e < 3; e++) {
            if (!rarely(5)) {
                did("allow", e, (e + 1) % 3, 0, any(0, 1));
                did("allow", e, (e + 2) % 3, 128, any(1, 2));
            }
        }
        boolean good = true;
        for (int i = 0; i < 240 && good; i++) {
            good = act(deed(mood)) && did("checksum", 0, 0, 0, 0);
            if (good && rarely(3)) {
                good = look(LOOKS[random.nextInt(LOOKS.length)]);
            }
        }
        if (good) {
            told.add("looking at all");
            lookAtAll();
        }
        return model.drops;
    }

    public static void main(String[] args) {
        int runs = args.length > 0 ? Integer.parseInt(args[0]) : 1500;
        long[] codes = new long[11];
        for (int seed = 0; seed < runs && wrong < 3; seed++) {
            long[] drops = new ModelTest(seed).run();
            for (int i = 0; i < codes.length; i++) {
                codes[i] += drops[i];
            }
        }
        // A run of chance calls tests nothing of a code that it never comes to.
        for (int i = 0; i < codes.length && wrong == 0; i++) {
            if (codes[i] < 50) {
                wrong++;
                System.out.println("the code " + (i - 7) + " came only " + codes[i] + " times");
            }
        }
        if (wrong > 0) {
            System.exit(1);
        }
    }
}
