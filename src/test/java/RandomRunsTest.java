import java.math.BigDecimal;
import java.math.BigInteger;
import java.math.MathContext;
import java.math.RoundingMode;
import java.util.ArrayList;
import java.util.Arrays;
import java.util.HashMap;
import java.util.List;
import java.util.Map;
import java.util.Random;

/**
 * Runs of calls with fixed seeds, each answer held against a plain model: decimals of 150 places, where
 * numbers that agree in 110 places are taken for the same. No two numbers of these runs come so close.
 */
public final class RandomRunsTest {
    private static final MathContext PLACES = new MathContext(150, RoundingMode.HALF_EVEN);
    private static final BigDecimal NEAR = BigDecimal.ONE.movePointLeft(110);
    private static final int BITS = 500;
    private static final int RUNS = 160;
    private static final int CALLS = 300;
    private static final int[] EDGES = {-1000, -999, -1, 0, 0, 0, 1, 999, 1000};
    private static final int[] PARTS = {1, 2, 10, 1000, 499999, 500000, 999983, 999999, 1000000};

    private RandomRunsTest() {
    }

    public static void main(String[] args) {
        Map<String, BigDecimal[]> known = new HashMap<>();
        for (int run = 0; run < RUNS; run++) {
            Random random = new Random(run);
            RootDesk x = new RootDesk();
            Model m = new Model(known);
            boolean right = true;
            for (int i = 0; i < CALLS && right; i++) {
                int[] call = choose(random, run % 4);
                String due = m.answer(call);
                String got = answer(x, call);
                right = due.equals(got);
                Check.same("run " + run + ", call " + i + ", " + Arrays.toString(call), got, due);
            }
        }
        Check.end();
    }

    /** The calls by number, in the order of the promises; 0 sets all coefficients. */
    private static int[] choose(Random r, int kind) {
        int k = r.nextInt(40);
        if (k < 6) {
            int[] c = polynomial(r, kind);
            return new int[] {0, c[0], c[1], c[2], c[3], c[4], c[5], c[6]};
        }
        int a = slot(r);
        int b = slot(r);
        int to = slot(r);
        switch (k) {
            case 6:
                return new int[] {2, r.nextInt(8) - (r.nextInt(9) == 0 ? 1 : 0), r.nextInt(2020) - 1010};
            case 7:
                return new int[] {3 + r.nextInt(2)};
            case 8: case 9:
                return new int[] {5, a, b};
            case 10: case 11:
                return new int[] {6, a};
            case 12: case 13: case 14: case 15: case 16: case 17:
                return new int[] {7, to, r.nextInt(5) - (r.nextInt(9) == 0 ? 1 : 0)};
            case 18: case 19:
                return kind == 3 ? new int[] {8, to, (r.nextInt(3) - 1) * part(r), part(r)}
                    : kind == 1 ? new int[] {8, to, r.nextInt(13) - 6, 1 + r.nextInt(4)}
                    : new int[] {8, to, r.nextInt(2000100) - 1000050, r.nextInt(1000050)};
            case 20: case 21: case 22:
                return new int[] {9 + r.nextInt(3), to, a};
            case 23: case 24: case 25: case 26: case 27: case 28: case 29: case 30:
                return new int[] {12 + r.nextInt(4), to, a, b};
            case 31: case 32:
                return new int[] {16, to, a, r.nextInt(20) == 0 ? 4 : 2 + r.nextInt(2)};
            case 33: case 34:
                return new int[] {17, a, b};
            case 35:
                return new int[] {18, a};
            case 36: case 37: case 38:
                return new int[] {19, a, r.nextInt(33) - 1};
            default:
                return new int[] {21 + r.nextInt(2), a};
        }
    }

    private static int part(Random r) {
        return PARTS[r.nextInt(PARTS.length)];
    }

    private static int slot(Random r) {
        return r.nextInt(200) == 0 ? -1 + 9 * r.nextInt(2) : r.nextInt(8);
    }

    private static int[] polynomial(Random r, int kind) {
        int[] c = new int[7];
        if (kind == 1) {
            int[] p = {1};
            do {
                int[] f = {r.nextInt(9) - 4, r.nextInt(5) - 2, 1};
                int[] g = {r.nextInt(7) - 3, 1 + r.nextInt(3)};
                int[] q = product(p, r.nextBoolean() ? f : g);
                p = q.length > 7 ? p : q;
            } while (r.nextInt(3) != 0);
            System.arraycopy(p, 0, c, 0, p.length);
        } else if (kind == 3) {
            int top = 1 + r.nextInt(r.nextBoolean() ? 6 : 2);
            for (int i = 0; i <= top; i++) {
                c[i] = EDGES[r.nextInt(EDGES.length)];
            }
        } else {
            int top = r.nextInt(kind == 0 ? 7 : 4);
            int most = r.nextBoolean() ? 1000 : 9;
            for (int i = 0; i <= top; i++) {
                c[i] = r.nextInt(2 * most + 1) - most;
            }
        }
        for (int v : c) {
            if (v < -1000 || v > 1000) {
                return new int[] {-2, 0, 1, 0, 0, 0, 0};
            }
        }
        return c;
    }

    private static int[] product(int[] p, int[] q) {
        int[] r = new int[p.length + q.length - 1];
        for (int i = 0; i < p.length; i++) {
            for (int j = 0; j < q.length; j++) {
                r[i + j] += p[i] * q[j];
            }
        }
        return r;
    }

    private static String answer(RootDesk x, int[] c) {
        try {
            switch (c[0]) {
                case 0:
                    Check.polynomial(x, Arrays.copyOfRange(c, 1, 8));
                    return "";
                case 2: return "" + x.coefficient(c[1], c[2]);
                case 3: return "" + x.degree();
                case 4: return "" + x.roots();
                case 5: return "" + x.rootsIn(c[1], c[2]);
                case 6: return "" + x.signAt(c[1]);
                case 7: return "" + x.take(c[1], c[2]);
                case 8:
                    x.fraction(c[1], c[2], c[3]);
                    return "";
                case 9:
                    x.copy(c[1], c[2]);
                    return "";
                case 10:
                    x.negate(c[1], c[2]);
                    return "";
                case 11:
                    x.invert(c[1], c[2]);
                    return "";
                case 12: return "" + x.add(c[1], c[2], c[3]);
                case 13: return "" + x.subtract(c[1], c[2], c[3]);
                case 14: return "" + x.multiply(c[1], c[2], c[3]);
                case 15: return "" + x.divide(c[1], c[2], c[3]);
                case 16: return "" + x.root(c[1], c[2], c[3]);
                case 17: return "" + x.compare(c[1], c[2]);
                case 18: return "" + x.sign(c[1]);
                case 19: return Check.text(x, c[1], c[2]);
                case 21: return "" + x.weight(c[1]);
                default: return "" + x.size(c[1]);
            }
        } catch (IllegalArgumentException e) {
            return "illegal";
        } catch (ArithmeticException e) {
            return "arithmetic";
        }
    }

    private static final class Model {
        private final Map<String, BigDecimal[]> known;
        private final int[] c = new int[7];
        private final BigDecimal[] v = new BigDecimal[8];
        private final int[] weight = new int[8];
        private final int[] size = new int[8];

        Model(Map<String, BigDecimal[]> known) {
            this.known = known;
            for (int i = 0; i < 8; i++) {
                put(i, BigDecimal.ZERO, 1, 20);
            }
        }

        private void put(int to, BigDecimal value, int w, int s) {
            v[to] = value;
            weight[to] = w;
            size[to] = s;
        }

        private static boolean slots(int... a) {
            for (int i : a) {
                if (i < 0 || i > 7) {
                    return false;
                }
            }
            return true;
        }

        String answer(int[] call) {
            int op = call[0];
            int p = call.length > 1 ? call[1] : 0;
            int q = call.length > 2 ? call[2] : 0;
            int r = call.length > 3 ? call[3] : 0;
            switch (op) {
                case 0:
                    System.arraycopy(call, 1, c, 0, 7);
                    return "";
                case 2:
                    return p < 0 || p > 6 || q < -1000 || q > 1000 ? "illegal" : coefficient(p, q);
                case 3:
                    return "" + degree();
                case 4:
                    return "" + (degree() < 0 ? -1 : roots().length);
                case 5:
                    return !slots(p, q) ? "illegal" : degree() < 0 ? "-1" : rootsIn(v[p], v[q]);
                case 6:
                    return !slots(p) ? "illegal" : "" + signAt(v[p]);
                case 7:
                    return !slots(p) ? "illegal" : take(p, q);
                case 8:
                    return !slots(p) || Math.abs(q) > 1000000 || r < 1 || r > 1000000 ? "illegal"
                        : fraction(p, q, r);
                case 9: case 10: case 11:
                    return !slots(p, q) ? "illegal" : single(op, p, q);
                case 12: case 13: case 14: case 15:
                    return !slots(p, q, r) ? "illegal" : pair(op, p, q, r);
                case 16:
                    return !slots(p, q) || r < 2 || r > 3 ? "illegal" : root(p, q, r);
                case 17:
                    return !slots(p, q) ? "illegal" : "" + rank(v[p], v[q]);
                case 18:
                    return !slots(p) ? "illegal" : "" + v[p].signum();
                case 19:
                    return !slots(p) || q < 0 || q > 30 ? "illegal" : print(v[p].movePointRight(q));
                case 21:
                    return !slots(p) ? "illegal" : "" + weight[p];
                default:
                    return !slots(p) ? "illegal" : "" + size[p];
            }
        }

        private String coefficient(int i, int value) {
            int before = c[i];
            c[i] = value;
            return "" + before;
        }

        private int degree() {
            int d = 6;
            while (d >= 0 && c[d] == 0) {
                d--;
            }
            return d;
        }

        private BigDecimal[] roots() {
            return known.computeIfAbsent(Arrays.toString(c), k -> Sturm.roots(c, degree()));
        }

        private String rootsIn(BigDecimal a, BigDecimal b) {
            int n = 0;
            for (BigDecimal x : roots()) {
                n += rank(x, a) > 0 && rank(x, b) <= 0 ? 1 : 0;
            }
            return "" + n;
        }

        private int signAt(BigDecimal x) {
            BigDecimal sum = BigDecimal.ZERO;
            BigDecimal sizes = BigDecimal.ZERO;
            for (int i = 0; i <= 6; i++) {
                BigDecimal term = x.pow(i, PLACES).multiply(new BigDecimal(c[i]), PLACES);
                sum = sum.add(term, PLACES);
                sizes = sizes.add(term.abs(), PLACES);
            }
            return sum.abs().compareTo(sizes.multiply(NEAR)) <= 0 ? 0 : sum.signum();
        }

        private String take(int to, int i) {
            if (degree() < 0 || i < 0 || i >= roots().length) {
                return "false";
            }
            put(to, roots()[i], degree(), 10);
            return "true";
        }

        private String fraction(int to, int p, int q) {
            put(to, new BigDecimal(p).divide(new BigDecimal(q), PLACES), 1, 20);
            return "";
        }

        private String single(int op, int to, int a) {
            if (op == 11 && v[a].signum() == 0) {
                return "arithmetic";
            }
            BigDecimal x = op == 9 ? v[a] : op == 10 ? v[a].negate() : BigDecimal.ONE.divide(v[a], PLACES);
            put(to, x, weight[a], size[a]);
            return "";
        }

        private String pair(int op, int to, int a, int b) {
            if (op == 15 && v[b].signum() == 0) {
                return "arithmetic";
            }
            int w = weight[a] * weight[b];
            int s = weight[b] * (size[a] + 6) + weight[a] * (size[b] + weight[b] + 6);
            if (w > 6 || s > 130) {
                return "false";
            }
            BigDecimal x;
            if (op == 12 || op == 13) {
                x = op == 12 ? v[a].add(v[b], PLACES) : v[a].subtract(v[b], PLACES);
                BigDecimal greater = v[a].abs().max(v[b].abs());
                x = x.abs().compareTo(greater.multiply(NEAR)) <= 0 ? BigDecimal.ZERO : x;
            } else {
                x = op == 14 ? v[a].multiply(v[b], PLACES) : v[a].divide(v[b], PLACES);
            }
            put(to, x, w, s);
            return "true";
        }

        private String root(int to, int a, int k) {
            if (k == 2 && v[a].signum() < 0) {
                return "arithmetic";
            }
            if (k * weight[a] > 6) {
                return "false";
            }
            put(to, k == 2 ? v[a].sqrt(PLACES) : cubeRoot(v[a]), k * weight[a], size[a]);
            return "true";
        }

        private static BigDecimal cubeRoot(BigDecimal a) {
            if (a.signum() == 0) {
                return a;
            }
            BigDecimal x = new BigDecimal(Math.cbrt(a.doubleValue()));
            BigDecimal three = new BigDecimal(3);
            for (int i = 0; i < 6; i++) {
                BigDecimal square = x.multiply(x, PLACES);
                x = x.add(x, PLACES).add(a.divide(square, PLACES), PLACES).divide(three, PLACES);
            }
            return x;
        }

        private static int rank(BigDecimal a, BigDecimal b) {
            BigDecimal greater = a.abs().max(b.abs());
            BigDecimal gap = a.subtract(b, PLACES);
            return gap.abs().compareTo(greater.multiply(NEAR)) <= 0 ? 0 : gap.signum();
        }

        private static String print(BigDecimal x) {
            BigDecimal nearest = x.setScale(0, RoundingMode.HALF_EVEN);
            return (rank(nearest, x) == 0 ? nearest : x.setScale(0, RoundingMode.FLOOR)).toBigInteger().toString();
        }
    }

    /** Real roots after Sturm, by halving alone. */
    private static final class Sturm {
        private Sturm() {
        }

        static BigDecimal[] roots(int[] c, int d) {
            List<BigDecimal> found = new ArrayList<>();
            if (d > 0) {
                BigInteger[] f = new BigInteger[d + 1];
                for (int i = 0; i <= d; i++) {
                    f[i] = BigInteger.valueOf(c[i]);
                }
                BigInteger bound = BigInteger.ONE.shiftLeft(11);
                search(chain(f), bound.negate(), bound, 0, found);
            }
            return found.toArray(new BigDecimal[0]);
        }

        private static List<BigInteger[]> chain(BigInteger[] f) {
            List<BigInteger[]> chain = new ArrayList<>();
            chain.add(f);
            BigInteger[] slope = new BigInteger[f.length - 1];
            for (int i = 1; i < f.length; i++) {
                slope[i - 1] = f[i].multiply(BigInteger.valueOf(i));
            }
            BigInteger[] next = slope;
            while (next.length > 0) {
                chain.add(next);
                next = rest(chain.get(chain.size() - 2), next);
            }
            return chain;
        }

        /** Minus the rest of a divided by b, times a square. */
        private static BigInteger[] rest(BigInteger[] a, BigInteger[] b) {
            BigInteger[] u = a.clone();
            BigInteger lead = b[b.length - 1];
            for (int i = u.length - b.length; i >= 0; i--) {
                BigInteger head = u[i + b.length - 1];
                for (int j = 0; j < u.length; j++) {
                    u[j] = u[j].multiply(lead).multiply(lead);
                }
                for (int j = 0; j < b.length; j++) {
                    u[i + j] = u[i + j].subtract(head.multiply(lead).multiply(b[j]));
                }
            }
            int n = b.length - 1;
            while (n > 0 && u[n - 1].signum() == 0) {
                n--;
            }
            BigInteger[] r = new BigInteger[n];
            for (int i = 0; i < n; i++) {
                r[i] = u[i].negate();
            }
            return r;
        }

        private static int sign(BigInteger[] f, BigInteger m, int e) {
            BigInteger value = BigInteger.ZERO;
            for (int i = f.length - 1; i >= 0; i--) {
                value = value.multiply(m).add(f[i].shiftLeft(e * (f.length - 1 - i)));
            }
            return value.signum();
        }

        private static int changes(List<BigInteger[]> chain, BigInteger m, int e) {
            int n = 0;
            int last = 0;
            for (BigInteger[] f : chain) {
                int s = sign(f, m, e);
                n += s != 0 && s == -last ? 1 : 0;
                last = s != 0 ? s : last;
            }
            return n;
        }

        /** The ends are no roots: where halving meets one, it takes a point a little to the right. */
        private static void search(List<BigInteger[]> chain, BigInteger lo, BigInteger hi, int e,
                List<BigDecimal> found) {
            int n = changes(chain, lo, e) - changes(chain, hi, e);
            if (n == 0) {
                return;
            }
            if (hi.subtract(lo).bitLength() - e < -BITS) {
                found.add(value(chain.get(0), lo.add(hi), e + 1));
                return;
            }
            if (n == 1 && sign(chain.get(0), lo, e) != sign(chain.get(0), hi, e)) {
                halve(chain.get(0), lo, hi, e, found);
                return;
            }
            BigInteger mid = lo.add(hi);
            int finer = 1;
            if (sign(chain.get(0), mid, e + 1) == 0) {
                finer = 5;
                mid = mid.shiftLeft(4).add(BigInteger.ONE);
            }
            search(chain, lo.shiftLeft(finer), mid, e + finer, found);
            search(chain, mid, hi.shiftLeft(finer), e + finer, found);
        }

        private static void halve(BigInteger[] f, BigInteger from, BigInteger to, int at, List<BigDecimal> found) {
            BigInteger lo = from;
            BigInteger hi = to;
            int e = at;
            int atLow = sign(f, lo, e);
            while (hi.subtract(lo).bitLength() - e >= -BITS) {
                BigInteger mid = lo.add(hi);
                e++;
                boolean below = sign(f, mid, e) == atLow;
                lo = below ? mid : lo.shiftLeft(1);
                hi = below ? hi.shiftLeft(1) : mid;
            }
            found.add(value(f, lo.add(hi), e + 1));
        }

        /** The root 0 must come out as 0, since no share of it is small. */
        private static BigDecimal value(BigInteger[] f, BigInteger m, int e) {
            BigDecimal x = new BigDecimal(m).divide(new BigDecimal(BigInteger.ONE.shiftLeft(e))).round(PLACES);
            return f[0].signum() == 0 && x.abs().compareTo(NEAR) < 0 ? BigDecimal.ZERO : x;
        }
    }
}
