import java.math.BigInteger;
import java.util.ArrayDeque;
import java.util.ArrayList;
import java.util.Arrays;
import java.util.Deque;
import java.util.HashSet;
import java.util.List;
import java.util.NoSuchElementException;

/**
 * The document told once more, in the slowest and plainest way, for RandomRunsTest to compare with:
 * big integers, copies of everything, tokens as a list. It shares no code with RootDiscs.
 */
public final class Model {
    public static final int NONE = -1;

    static final class Z {
        final BigInteger re, im;
        Z(BigInteger re, BigInteger im) { this.re = re; this.im = im; }
        static Z of(long re, long im) { return new Z(BigInteger.valueOf(re), BigInteger.valueOf(im)); }
        Z times(Z o) {
            return new Z(re.multiply(o.re).subtract(im.multiply(o.im)), re.multiply(o.im).add(im.multiply(o.re)));
        }
        Z plus(Z o) { return new Z(re.add(o.re), im.add(o.im)); }
        Z minus(Z o) { return new Z(re.subtract(o.re), im.subtract(o.im)); }
        Z times(BigInteger b) { return new Z(re.multiply(b), im.multiply(b)); }
        Z power(int k) { Z all = of(1, 0); for (int i = 0; i < k; i++) all = all.times(this); return all; }
        BigInteger sum() { return re.abs().add(im.abs()); }
    }

    /** A point; partner is another point of the same list, or null. */
    static final class P {
        int x, y;
        P partner;
        boolean isFirst;
        P(int x, int y) { this.x = x; this.y = y; }
        Z z() { return Z.of(x, y); }
    }

    static final class S {
        int[] first, c;
        List<P> points = new ArrayList<>();
        List<int[]> debts = new ArrayList<>();
        List<List<Integer>> visits = new ArrayList<>();
        int goal = 2;

        S copy() {
            S s = new S();
            s.first = first.clone();
            s.c = c.clone();
            for (P p : points) { P q = new P(p.x, p.y); q.isFirst = p.isFirst; s.points.add(q); }
            for (int i = 0; i < points.size(); i++)
                if (points.get(i).partner != null) s.points.get(i).partner = s.points.get(points.indexOf(points.get(i).partner));
            for (int[] d : debts) s.debts.add(d.clone());
            s.visits.addAll(visits);
            s.goal = goal;
            return s;
        }

        int n() { return c.length - 1; }

        void visit(P p) {
            visits.add(List.of(p.x, p.y));
            if (visits.size() > 200) visits.remove(0);
        }

        int go(P p, int x, int y) {
            if (p.x == x && p.y == y) return 0;
            p.x = x;
            p.y = y;
            visit(p);
            return 1;
        }

        Z value(Z z) {
            Z sum = Z.of(0, 0);
            for (int k = 0; k <= n(); k++)
                sum = sum.plus(z.power(k).times(BigInteger.valueOf(c[k]).multiply(BigInteger.valueOf(32).pow(n() - k))));
            return sum;
        }

        Z slope(Z z) {
            Z sum = Z.of(0, 0);
            for (int k = 1; k <= n(); k++)
                sum = sum.plus(z.power(k - 1).times(BigInteger.valueOf((long) k * c[k]).multiply(BigInteger.valueOf(32).pow(n() - k))));
            return sum;
        }

        Z product(P p) {
            Z all = Z.of(c[n()], 0);
            for (P q : points) if (q != p) all = all.times(p.z().minus(q.z()));
            return all;
        }

        BigInteger span(P p) {
            BigInteger all = BigInteger.valueOf(Math.abs(c[n()]));
            for (P q : points) if (q != p) all = all.multiply(BigInteger.valueOf(Math.max(Math.abs(p.x - q.x), Math.abs(p.y - q.y))));
            return all;
        }

        int[] step(P p) {
            Z d = product(p);
            if (d.sum().signum() == 0) return new int[] {0, 0};
            Z v = value(p.z());
            BigInteger two = BigInteger.TWO, most = BigInteger.valueOf(16384);
            while (d.re.abs().compareTo(most) > 0 || d.im.abs().compareTo(most) > 0) {
                d = new Z(d.re.divide(two), d.im.divide(two));
                v = new Z(v.re.divide(two), v.im.divide(two));
            }
            BigInteger large = BigInteger.TWO.pow(40);
            v = new Z(v.re.min(large).max(large.negate()), v.im.min(large).max(large.negate()));
            BigInteger square = d.re.multiply(d.re).add(d.im.multiply(d.im));
            BigInteger x = v.re.multiply(d.re).add(v.im.multiply(d.im)).divide(square);
            BigInteger y = v.im.multiply(d.re).subtract(v.re.multiply(d.im)).divide(square);
            return new int[] {within(x, 64), within(y, 64)};
        }

        static int within(BigInteger b, int most) {
            return b.min(BigInteger.valueOf(most)).max(BigInteger.valueOf(-most)).intValueExact();
        }

        static int coordinate(int v) { return Math.min(256, Math.max(-256, v)); }

        int refine(P p) {
            if (p.partner != null && !p.isFirst) p = p.partner;
            int[] step = step(p);
            int x = coordinate(p.x - step[0]), y = coordinate(p.y - step[1]);
            if (p.partner == null) return go(p, x, y);
            P other = p.partner;
            if (y >= 1) {
                int moved = go(p, x, y);
                return moved + go(other, x, -y);
            }
            end(p);
            int moved = go(p, coordinate(x - 1), 0);
            return moved + go(other, coordinate(x + 1), 0);
        }

        static void end(P p) {
            P other = p.partner;
            p.partner = null;
            other.partner = null;
            p.isFirst = false;
            other.isFirst = false;
        }

        static void pair(P p, P q) {
            p.partner = q;
            q.partner = p;
            p.isFirst = true;
            q.isFirst = false;
        }

        int sweep() {
            int moved = 0;
            List<P> gone = new ArrayList<>();
            for (P p : points) {
                if (gone.contains(p)) continue;
                if (p.partner != null) gone.add(p.partner);
                moved += refine(p);
            }
            return moved;
        }

        int run(int most) {
            int made = 0;
            while (made < most) {
                if (allSettled()) break;
                made++;
                if (sweep() == 0) break;
            }
            return made;
        }

        int radius(P p) {
            BigInteger span = span(p);
            if (span.signum() == 0) return NONE;
            BigInteger[] parts = value(p.z()).sum().divideAndRemainder(span);
            BigInteger up = parts[1].signum() == 0 ? parts[0] : parts[0].add(BigInteger.ONE);
            BigInteger radius = up.multiply(BigInteger.valueOf(n()));
            return radius.compareTo(BigInteger.valueOf(9999)) > 0 ? NONE : radius.intValueExact();
        }

        boolean touch(P p, int y, P q) {
            int a = radius(p), b = radius(q);
            if (a == NONE || b == NONE) return true;
            long dx = p.x - q.x, dy = y - q.y, r = a + b;
            return dx * dx + dy * dy <= r * r;
        }

        int cluster(P start) {
            List<P> in = new ArrayList<>();
            in.add(start);
            for (int i = 0; i < in.size(); i++)
                for (P q : points) if (!in.contains(q) && touch(in.get(i), in.get(i).y, q)) in.add(q);
            int set = 0;
            for (P q : in) set |= 1 << points.indexOf(q);
            return set;
        }

        boolean settled(P p) {
            return cluster(p) == 1 << points.indexOf(p) && radius(p) != NONE && radius(p) <= goal;
        }

        boolean allSettled() {
            for (P p : points) if (!settled(p)) return false;
            return true;
        }

        boolean real(P p) {
            if (cluster(p) != 1 << points.indexOf(p) || p.partner != null) return false;
            if (radius(p) == NONE || radius(p) < Math.abs(p.y)) return false;
            for (P q : points) if (q != p && touch(p, -p.y, q)) return false;
            return true;
        }

        int size(int k) { return Integer.toBinaryString(Math.abs(c[k])).length(); }

        List<int[]> edges() {
            List<int[]> edges = new ArrayList<>();
            int k = 0;
            while (c[k] == 0) k++;
            if (k > 0) edges.add(new int[] {0, k, 1});
            while (k < n()) {
                int best = -1;
                for (int j = k + 1; j <= n(); j++) {
                    if (c[j] == 0) continue;
                    if (best < 0 || (size(j) - size(k)) * (best - k) >= (size(best) - size(k)) * (j - k)) best = j;
                }
                int q = (int) Math.floor((double) (size(k) - size(best)) / (best - k));
                double length = 32 * Math.pow(2, q);
                edges.add(new int[] {k, best, (int) Math.max(1, Math.min(256, length))});
                k = best;
            }
            return edges;
        }

        int lay(int from, int many, int r) {
            List<P> them = points.subList(from, from + many);
            int m = many / 2, moved = 0;
            for (int k = 0; k < m; k++) {
                P p = them.get(2 * k), q = them.get(2 * k + 1);
                p.partner = null;
                q.partner = null;
                pair(p, q);
                int x = Math.floorDiv(2 * r * (k + 1), m + 1) - r;
                moved += go(p, x, r);
                moved += go(q, x, -r);
            }
            if (many % 2 == 1) {
                P p = them.get(many - 1);
                p.partner = null;
                p.isFirst = false;
                moved += go(p, -r, 0);
            }
            return moved;
        }

        int start() {
            int moved = 0;
            for (int[] e : edges()) moved += lay(e[0], e[1] - e[0], e[2]);
            return moved;
        }

        static int[] factor(int a, int b) {
            return b == 0 ? new int[] {-a, 1} : new int[] {a * a + b * b, -2 * a, 1};
        }

        /** School division from the top: {quotient, remainder}. */
        BigInteger[][] divided(int a, int b) {
            int[] f = factor(a, b);
            int m = f.length - 1;
            BigInteger[] rest = new BigInteger[n() + 1];
            for (int k = 0; k <= n(); k++) rest[k] = BigInteger.valueOf(c[k]);
            BigInteger[] q = new BigInteger[Math.max(0, n() - m + 1)];
            for (int k = n() - m; k >= 0; k--) {
                q[k] = rest[k + m];
                for (int i = 0; i <= m; i++) rest[k + i] = rest[k + i].subtract(q[k].multiply(BigInteger.valueOf(f[i])));
            }
            return new BigInteger[][] {q, Arrays.copyOf(rest, m)};
        }

        P nearest(int a, int b) {
            P best = null;
            long least = 0;
            for (P p : points) {
                if (b == 0 ? p.partner != null : !(p.partner != null && p.isFirst)) continue;
                long d = (long) (p.x - 32 * a) * (p.x - 32 * a) + (long) (p.y - 32 * b) * (p.y - 32 * b);
                if (best == null || d < least) { best = p; least = d; }
            }
            return best;
        }

        int why(int a, int b) {
            if (n() <= (b == 0 ? 1 : 2)) return 1;
            if (nearest(a, b) == null) return 2;
            for (BigInteger q : divided(a, b)[0]) if (q.abs().compareTo(BigInteger.valueOf(9999)) > 0) return 3;
            return 0;
        }

        int divide(int a, int b) {
            BigInteger[][] d = divided(a, b);
            int r1 = b == 0 ? 0 : d[1][1].intValueExact(), r0 = d[1][0].intValueExact();
            debts.add(new int[] {a, b, r1, r0, Math.abs(r1) + Math.abs(r0)});
            P p = nearest(a, b);
            points.remove(p);
            if (b != 0) points.remove(p.partner);
            c = new int[d[0].length];
            for (int k = 0; k < c.length; k++) c[k] = d[0][k].intValueExact();
            return Math.abs(r1) + Math.abs(r0);
        }
    }

    // ---- the object

    private S now;
    private S saved;
    private final Deque<S> past = new ArrayDeque<>();
    private List<Integer> buffer = new ArrayList<>();
    private String report;
    private int code, position = NONE;

    public Model() {
        now = new TextParser("poly -1 0 1;at 64 0;at -64 0;").text();
    }

    private void keep() {
        past.push(now.copy());
        if (past.size() > 6) past.removeLast();
    }

    private P at(int p) {
        if (p < 0 || p >= now.points.size()) throw new IndexOutOfBoundsException();
        return now.points.get(p);
    }

    private static void need(boolean ok) { if (!ok) throw new IllegalArgumentException(); }
    private static void needState(boolean ok) { if (!ok) throw new IllegalStateException(); }
    private static void needIndex(boolean ok) { if (!ok) throw new IndexOutOfBoundsException(); }
    private static boolean in(int v, int least, int most) { return v >= least && v <= most; }

    public int feed(int a, int b, int c, int d, int e) {
        needState(buffer.size() + 20 <= 400);
        for (int w : new int[] {a, b, c, d, e}) {
            long u = w & 0xffffffffL;
            buffer.add((int) (u / 16777216));
            buffer.add((int) (u / 65536 % 256));
            buffer.add((int) (u / 256 % 256));
            buffer.add((int) (u % 256));
        }
        return buffer.size();
    }

    public int truncate(int n) {
        need(n >= 0 && n <= buffer.size());
        buffer = new ArrayList<>(buffer.subList(0, n));
        return n;
    }

    private String takeBuffer() {
        StringBuilder s = new StringBuilder();
        for (int b : buffer) s.append((char) b);
        buffer.clear();
        return s.toString();
    }

    public int readText() {
        String text = takeBuffer();
        code = 0;
        position = NONE;
        S read;
        try {
            read = new TextParser(text).text();
        } catch (TextError e) {
            code = e.code;
            position = e.position;
            throw new IllegalArgumentException();
        }
        now = read;
        past.clear();
        return now.n();
    }

    public int runScript() {
        String text = takeBuffer();
        code = 0;
        position = NONE;
        List<Command> commands;
        try {
            commands = new TextParser(text).script();
        } catch (TextError e) {
            code = e.code;
            position = e.position;
            throw new IllegalArgumentException();
        }
        keep();
        Deque<S> kept = new ArrayDeque<>(past);
        int[] done = {0};
        try {
            runAll(commands, done);
        } catch (EndOfScript e) {
            // the commands before stay done
        }
        past.clear();
        past.addAll(kept);
        return done[0];
    }

    private void runAll(List<Command> commands, int[] done) {
        for (Command k : commands) {
            if (k.word.equals("repeat")) {
                for (int i = 0; i < k.numbers.get(0); i++) runAll(k.body, done);
                continue;
            }
            if (done[0] == 40) throw new EndOfScript();
            try {
                runOne(k);
            } catch (IllegalArgumentException | IllegalStateException | IndexOutOfBoundsException e) {
                throw new EndOfScript();
            }
            done[0]++;
        }
    }

    private void runOne(Command k) {
        List<Integer> a = k.numbers;
        switch (k.word) {
            case "refine": refine(a.get(0)); break;
            case "sweep": sweep(); break;
            case "run": run(a.get(0)); break;
            case "spread": spread(a.get(0)); break;
            case "start": start(); break;
            case "move": move(a.get(0), a.get(1), a.get(2)); break;
            case "divide": if (a.size() == 1) divide(a.get(0)); else dividePair(a.get(0), a.get(1)); break;
            case "goal": setGoal(a.get(0)); break;
            default: throw new NoSuchElementException(k.word);
        }
    }

    public int errorCode() { return code; }
    public int errorPosition() { return position; }
    public int degree() { return now.n(); }
    public int coefficient(int k) { needIndex(in(k, 0, now.n())); return now.c[k]; }
    public int firstDegree() { return now.first.length - 1; }
    public int firstCoefficient(int k) { needIndex(in(k, 0, firstDegree())); return now.first[k]; }

    private static long part(Z z, boolean im) { return (im ? z.im : z.re).longValueExact(); }
    private static boolean place(int x, int y) { return in(x, -256, 256) && in(y, -256, 256); }

    public long valueAt(int x, int y, boolean im) { need(place(x, y)); return part(now.value(Z.of(x, y)), im); }
    public long slopeAt(int x, int y, boolean im) { need(place(x, y)); return part(now.slope(Z.of(x, y)), im); }
    public int edges() { return now.edges().size(); }

    public int edge(int i, int what) {
        needIndex(in(i, 0, edges() - 1));
        need(in(what, 0, 2));
        return now.edges().get(i)[what];
    }

    public int bound() {
        int greatest = 0;
        for (int k = 0; k < now.n(); k++) greatest = Math.max(greatest, Math.abs(now.c[k]));
        return 32 + (int) Math.ceil(32.0 * greatest / Math.abs(now.c[now.n()]));
    }

    public int point(int point, int what) {
        P p = at(point);
        need(in(what, 0, 6));
        switch (what) {
            case 0: return p.x;
            case 1: return p.y;
            case 2: return now.radius(p);
            case 3: return p.partner == null ? NONE : now.points.indexOf(p.partner);
            case 4: return Integer.numberOfTrailingZeros(now.cluster(p));
            case 5: return now.settled(p) ? 1 : 0;
            default: return now.real(p) ? 1 : 0;
        }
    }

    public long value(int point, boolean im) { return part(now.value(at(point).z()), im); }
    public long product(int point, boolean im) { return part(now.product(at(point)), im); }
    public long span(int point) { return now.span(at(point)).longValueExact(); }
    public int step(int point, boolean isY) { return now.step(at(point))[isY ? 1 : 0]; }

    public boolean touch(int point, int other) {
        P p = at(point), q = at(other);
        return p == q || now.touch(p, p.y, q);
    }

    public int cluster(int point) { return now.cluster(at(point)); }

    public int clusters() {
        HashSet<Integer> sets = new HashSet<>();
        for (P p : now.points) sets.add(now.cluster(p));
        return sets.size();
    }

    public int settled() {
        int set = 0;
        for (int p = 0; p < now.points.size(); p++) if (now.settled(now.points.get(p))) set |= 1 << p;
        return set;
    }

    public int real() {
        int set = 0;
        for (int p = 0; p < now.points.size(); p++) if (now.real(now.points.get(p))) set |= 1 << p;
        return set;
    }

    public int holding(int x, int y) {
        int set = 0;
        for (int p = 0; p < now.points.size(); p++) {
            P q = now.points.get(p);
            BigInteger dx = BigInteger.valueOf((long) x - q.x), dy = BigInteger.valueOf((long) y - q.y);
            BigInteger r = BigInteger.valueOf(now.radius(q));
            if (r.signum() >= 0 && dx.multiply(dx).add(dy.multiply(dy)).compareTo(r.multiply(r)) <= 0) set |= 1 << p;
        }
        return set;
    }

    public int worst() {
        List<Integer> order = new ArrayList<>();
        for (int p = 0; p < now.points.size(); p++) order.add(p);
        order.sort((p, q) -> key(q) - key(p));
        return order.get(0);
    }

    private int key(int p) {
        int r = now.radius(now.points.get(p));
        return r == NONE ? 1000000 : r;
    }

    public int byProduct(int i) {
        List<Integer> order = new ArrayList<>();
        for (int p = 0; p < now.points.size(); p++) order.add(p);
        order.sort((p, q) -> now.product(now.points.get(q)).sum().compareTo(now.product(now.points.get(p)).sum()));
        return i >= 0 && i < order.size() ? order.get(i) : NONE;
    }

    public int goal() { return now.goal; }

    public int rootsIn(int left, int low, int right, int high, boolean most) {
        for (int v : new int[] {left, low, right, high}) need(in(v, -9999, 9999));
        need(right >= left && high >= low);
        HashSet<Integer> sets = new HashSet<>();
        for (P p : now.points) sets.add(now.cluster(p));
        int count = 0;
        for (int set : sets) {
            boolean all = true, any = false;
            for (int p = 0; p < now.points.size(); p++) {
                if ((set & 1 << p) == 0) continue;
                P q = now.points.get(p);
                int r = now.radius(q);
                if (r == NONE) { all = false; any = true; continue; }
                if (q.x - r < left || q.x + r > right || q.y - r < low || q.y + r > high) all = false;
                boolean apart = q.x - r > right || q.x + r < left || q.y - r > high || q.y + r < low;
                if (!apart) any = true;
            }
            if (most ? any : all) count += Integer.bitCount(set);
        }
        return count;
    }

    public int sumError() {
        int sum = 0;
        for (P p : now.points) sum += p.x;
        return now.c[now.n()] * sum + 32 * now.c[now.n() - 1];
    }

    public int visits(int x, int y) {
        int found = 0;
        for (List<Integer> v : now.visits) if (v.equals(List.of(x, y))) found++;
        return found;
    }

    public int places() { return new HashSet<>(now.visits).size(); }

    public int whyNotDivide(int a) { need(in(a, -8, 8)); return now.why(a, 0); }
    public int whyNotDividePair(int a, int b) { need(in(a, -8, 8) && in(b, 1, 8)); return now.why(a, b); }
    public int debts() { return now.debts.size(); }

    public int debt(int k, int what) {
        needIndex(in(k, 0, debts() - 1));
        need(in(what, 0, 4));
        return now.debts.get(k)[what];
    }

    public int recombined(int k) {
        needIndex(in(k, 0, firstDegree()));
        int[] poly = now.c.clone();
        for (int d = debts() - 1; d >= 0; d--) {
            int[] debt = now.debts.get(d);
            int[] f = S.factor(debt[0], debt[1]);
            int[] all = new int[poly.length + f.length - 1];
            for (int i = 0; i < poly.length; i++) for (int j = 0; j < f.length; j++) all[i + j] += poly[i] * f[j];
            all[0] += debt[3];
            all[1] += debt[2];
            poly = all;
        }
        return poly[k];
    }

    public float debtShare() {
        int owed = 0, told = 0;
        for (int[] d : now.debts) owed += d[4];
        for (int c : now.first) told += Math.abs(c);
        return (float) owed / (float) told;
    }

    public int sweepsToSettle(int limit) {
        need(in(limit, 0, 200));
        S s = now.copy();
        for (int made = 0; made <= limit; made++) {
            if (s.allSettled()) return made;
            s.sweep();
        }
        return NONE;
    }

    public double meanRadiusBehind() {
        S s = now.copy();
        s.sweep();
        int sum = 0;
        for (P p : s.points) sum += s.radius(p) == NONE ? 9999 : s.radius(p);
        return (double) sum / (double) s.points.size();
    }

    public int refine(int point) { at(point); keep(); return now.refine(at(point)); }
    public int sweep() { keep(); return now.sweep(); }
    public int run(int most) { need(in(most, 1, 50)); keep(); return now.run(most); }
    public int spread(int length) { need(in(length, 1, 256)); keep(); return now.lay(0, now.points.size(), length); }
    public int start() { keep(); return now.start(); }

    public int move(int point, int x, int y) {
        P p = at(point);
        need(place(x, y));
        if (p.partner == null) { keep(); return now.go(at(point), x, y); }
        int firstY = p.isFirst ? y : -y;
        needState(firstY >= 1);
        keep();
        P first = p.isFirst ? p : p.partner;
        int moved = now.go(first, x, firstY);
        return moved + now.go(first.partner, x, -firstY);
    }

    public int join(int point) {
        P p = at(point);
        needState(point + 1 < now.points.size());
        P q = now.points.get(point + 1);
        needState(p.partner == null && q.partner == null && p.y >= 1);
        keep();
        S.pair(p, q);
        now.go(q, p.x, -p.y);
        return q.y;
    }

    public int part(int point) {
        P p = at(point);
        needState(p.partner != null);
        keep();
        P first = p.isFirst ? p : p.partner;
        S.end(first);
        return now.points.indexOf(first);
    }

    public int divide(int a) { needState(whyNotDivide(a) == 0); keep(); return now.divide(a, 0); }
    public int dividePair(int a, int b) { needState(whyNotDividePair(a, b) == 0); keep(); return now.divide(a, b); }

    public int setGoal(int goal) {
        need(in(goal, 1, 99));
        keep();
        int old = now.goal;
        now.goal = goal;
        return old;
    }

    public int report() {
        StringBuilder s = new StringBuilder();
        for (P p : now.points) {
            int r = now.radius(p);
            s.append(p.x + " " + p.y + " " + (r == NONE ? "?" : "" + r));
            if (p.partner != null) s.append("p");
            if (now.real(p)) s.append("r");
            s.append("\n");
        }
        report = s.toString();
        return report.length();
    }

    public int reportByte(int i) {
        needIndex(report != null && i >= 0 && i < report.length());
        return report.charAt(i);
    }

    public int undo() {
        if (past.isEmpty()) return NONE;
        now = past.pop();
        return past.size();
    }

    public int save() { saved = now.copy(); return now.n(); }

    public int restore() {
        needState(saved != null);
        now = saved.copy();
        past.clear();
        return now.n();
    }

    // ---- texts

    static final class TextError extends RuntimeException {
        final int code, position;
        TextError(int code, int position) { this.code = code; this.position = position; }
    }

    static final class EndOfScript extends RuntimeException { }

    static final class Command {
        String word;
        List<Integer> numbers = new ArrayList<>();
        List<Command> body = new ArrayList<>();
    }

    static final class Token {
        final String text;
        final int start;
        final char kind;
        Token(char kind, String text, int start) { this.kind = kind; this.text = text; this.start = start; }
    }

    /** Tokens first, all of them; then the grammar, which throws at the first error. */
    static final class TextParser {
        final List<Token> tokens = new ArrayList<>();
        int next = 0;
        int commands = 0;

        TextParser(String text) {
            int i = 0;
            while (i < text.length()) {
                char c = text.charAt(i);
                if (c == ' ' || c == '\n') { i++; continue; }
                int j = i;
                while (j < text.length() && text.charAt(j) >= 'a' && text.charAt(j) <= 'z') j++;
                if (j > i) { tokens.add(new Token(j - i <= 8 ? 'w' : '?', text.substring(i, j), i)); i = j; continue; }
                while (j < text.length() && text.charAt(j) >= '0' && text.charAt(j) <= '9') j++;
                if (j > i) { tokens.add(new Token(j - i <= 4 ? 'n' : '?', text.substring(i, j), i)); i = j; continue; }
                tokens.add(new Token(";-()".indexOf(c) >= 0 ? c : '?', "", i));
                i++;
            }
            tokens.add(new Token('e', "", text.length()));
        }

        Token look() { return tokens.get(next); }
        TextError error(int code) { return new TextError(code, look().start); }
        boolean is(String word) { return look().kind == 'w' && look().text.equals(word); }
        void sign(char c) { if (look().kind != c) throw error(1); next++; }

        int number(int least, int most, int factor) {
            if (look().kind != 'n') throw error(1);
            int v = factor * Integer.parseInt(look().text);
            if (v < least || v > most) throw error(2);
            next++;
            return v;
        }

        int signed(int least, int most) {
            if (look().kind == '-') { next++; return number(least, most, -1); }
            return number(least, most, 1);
        }

        S text() {
            S s = new S();
            if (!is("poly")) throw error(1);
            next++;
            List<Integer> c = new ArrayList<>();
            c.add(signed(-99, 99));
            c.add(signed(-99, 99));
            while (look().kind != ';') {
                if (c.size() == 7) throw error(1);
                c.add(signed(-99, 99));
            }
            if (c.get(c.size() - 1) == 0) throw error(3);
            next++;
            s.c = new int[c.size()];
            for (int k = 0; k < s.c.length; k++) s.c[k] = c.get(k);
            s.first = s.c.clone();
            boolean goal = false;
            while (look().kind != 'e') {
                if (is("at") || is("pair")) {
                    int more = is("at") ? 1 : 2;
                    if (s.points.size() + more > s.n()) throw error(6);
                    next++;
                    int x = signed(-256, 256);
                    P p = new P(x, signed(more == 2 ? 1 : -256, 256));
                    s.points.add(p);
                    s.visit(p);
                    if (more == 2) {
                        P q = new P(p.x, -p.y);
                        s.points.add(q);
                        S.pair(p, q);
                        s.visit(q);
                    }
                } else if (is("goal")) {
                    if (goal) throw error(3);
                    goal = true;
                    next++;
                    s.goal = number(1, 99, 1);
                } else {
                    throw error(1);
                }
                sign(';');
            }
            if (s.points.size() < s.n()) throw error(5);
            return s;
        }

        List<Command> script() {
            List<Command> all = block(0, 'e');
            return all;
        }

        List<Command> block(int within, char end) {
            List<Command> all = new ArrayList<>();
            while (look().kind != end) all.add(command(within));
            return all;
        }

        Command command(int within) {
            Token t = look();
            if (t.kind != 'w' || !List.of("refine", "sweep", "run", "spread", "start", "move", "divide", "goal", "repeat").contains(t.text))
                throw error(1);
            if (t.text.equals("repeat") && within == 2) throw error(4);
            if (commands == 30) throw error(6);
            commands++;
            next++;
            Command k = new Command();
            k.word = t.text;
            switch (k.word) {
                case "refine": case "run": case "spread": case "goal":
                    k.numbers.add(number(0, 9999, 1));
                    break;
                case "move":
                    k.numbers.add(number(0, 9999, 1));
                    k.numbers.add(signed(-9999, 9999));
                    k.numbers.add(signed(-9999, 9999));
                    break;
                case "divide":
                    k.numbers.add(signed(-9999, 9999));
                    if (is("pair")) { next++; k.numbers.add(number(0, 9999, 1)); }
                    break;
                case "repeat":
                    k.numbers.add(number(1, 20, 1));
                    sign('(');
                    k.body = block(within + 1, ')');
                    sign(')');
                    break;
                default:
            }
            sign(';');
            return k;
        }
    }
}
