import java.lang.reflect.Method;
import java.math.BigInteger;
import java.util.Arrays;
import java.util.Random;

/**
 * Common divisors of polynomials against Euclid's over the fractions. Polynomials that are more alike
 * modulo one of the program's primes than they are, and leading coefficients with such a prime in
 * them, hardly ever come from calls of the face, so that they are tried here.
 */
public final class CommonDivisorsTest {
    private static final Random RANDOM = new Random(11);
    private static final int MOST = 6;

    private final int[] primes = (int[]) Inside.get(Inside.MODULAR, "PRIMES", null);
    private final Object divider = Inside.make(Inside.DIVIDER);
    private final Object modular = Inside.make(Inside.MODULAR, divider);
    private final Object out = Inside.make(Inside.POLY);
    private final Method common = Inside.method(Inside.MODULAR, "common", Inside.POLY, Inside.POLY, Inside.POLY);
    private final Method divides = Inside.method(Inside.DIVIDER, "divides", Inside.POLY, Inside.POLY, Inside.POLY);

    private CommonDivisorsTest() throws ReflectiveOperationException {
    }

    public static void main(String[] args) throws ReflectiveOperationException {
        CommonDivisorsTest t = new CommonDivisorsTest();
        t.primesArePrime();
        t.alikeModuloTwo();
        for (int i = 0; i < 20000; i++) {
            t.oneOf(i % 4);
        }
        for (int i = 0; i < 5000; i++) {
            t.quotients();
        }
        Check.end();
    }

    private void primesArePrime() {
        for (int i = 0; i < primes.length; i++) {
            Check.same("prime " + primes[i], BigInteger.valueOf(primes[i]).isProbablePrime(50), true);
            Check.same("each once, the greatest first", i == 0 || primes[i] < primes[i - 1], true);
            Check.same("in a limb", primes[i] < 1 << 30, true);
        }
    }

    /** x and x plus the first primes' product have nothing in common, though all these primes say so. */
    private void alikeModuloTwo() throws ReflectiveOperationException {
        BigInteger product = BigInteger.ONE;
        for (int i = 0; i < 8; i++) {
            product = product.multiply(BigInteger.valueOf(primes[i]));
            BigInteger[] p = {BigInteger.ZERO, BigInteger.ONE};
            BigInteger[] q = {product, BigInteger.ONE};
            expect(p, q, new BigInteger[] {BigInteger.ONE});
            expect(times(p, q), times(q, q), q);
        }
    }

    private void oneOf(int kind) throws ReflectiveOperationException {
        int d = RANDOM.nextInt(MOST);
        BigInteger[] g = polynomial(d);
        BigInteger[] a = polynomial(1 + RANDOM.nextInt(MOST - d));
        BigInteger[] b = polynomial(1 + RANDOM.nextInt(MOST - d));
        if (kind == 1) {
            b = plus(b, a);
        } else if (kind == 2) {
            raiseLead(a);
            raiseLead(RANDOM.nextBoolean() ? b : g);
        } else if (kind == 3) {
            raiseLead(RANDOM.nextBoolean() ? a : b);
            b = plus(b, a);
        }
        BigInteger[] p = times(g, a);
        BigInteger[] q = times(g, b);
        expect(p, q, euclid(p, q));
    }

    /** Some of the first primes, multiplied. */
    private BigInteger someOfThem() {
        BigInteger v = BigInteger.ONE;
        for (int i = 0; i < 4; i++) {
            v = RANDOM.nextBoolean() ? v : v.multiply(BigInteger.valueOf(primes[i]));
        }
        return v;
    }

    private void raiseLead(BigInteger[] f) {
        f[f.length - 1] = f[f.length - 1].multiply(someOfThem());
    }

    /** b times some primes, plus a: what is like a modulo these. */
    private BigInteger[] plus(BigInteger[] b, BigInteger[] a) {
        BigInteger m = someOfThem();
        BigInteger[] sum = new BigInteger[Math.max(a.length, b.length)];
        for (int i = 0; i < sum.length; i++) {
            sum[i] = i < b.length ? b[i].multiply(m) : BigInteger.ZERO;
            sum[i] = i < a.length ? sum[i].add(a[i]) : sum[i];
        }
        return sum[sum.length - 1].signum() == 0 ? b : sum;
    }

    private static BigInteger[] polynomial(int d) {
        int[] lengths = {1, 3, 10, 40, 90};
        int bits = lengths[RANDOM.nextInt(lengths.length)];
        BigInteger[] c = new BigInteger[d + 1];
        for (int i = 0; i <= d; i++) {
            BigInteger v = new BigInteger(bits, RANDOM);
            v = i == d && v.signum() == 0 ? BigInteger.ONE : v;
            c[i] = RANDOM.nextBoolean() ? v : v.negate();
        }
        return c;
    }

    private void expect(BigInteger[] p, BigInteger[] q, BigInteger[] due) throws ReflectiveOperationException {
        common.invoke(modular, Inside.poly(p), Inside.poly(q), out);
        Check.same("what " + Arrays.toString(p) + " and " + Arrays.toString(q) + " have in common",
            Arrays.toString(Inside.coefficients(out)), Arrays.toString(due));
    }

    /** Whether a divides, and what it gives, with and without a rest. */
    private void quotients() throws ReflectiveOperationException {
        int d = RANDOM.nextInt(MOST + 1);
        BigInteger[] b = polynomial(d);
        BigInteger[] a = polynomial(MOST - d);
        BigInteger[] p = times(a, b);
        Check.same("divides", (boolean) divides.invoke(divider, Inside.poly(p), Inside.poly(b), out), true);
        Check.same("quotient", Arrays.toString(Inside.coefficients(out)), Arrays.toString(a));
        int at = RANDOM.nextInt(d + 1);
        p[at] = p[at].add(BigInteger.ONE);
        // then b divides only if it divides that power of x, too
        boolean due = at == d && b[d].abs().equals(BigInteger.ONE);
        for (int i = 0; i < d; i++) {
            due = due && b[i].signum() == 0;
        }
        if (p[MOST].signum() != 0) {
            Check.same("divides", (boolean) divides.invoke(divider, Inside.poly(p), Inside.poly(b), out), due);
        }
    }

    private static BigInteger[] times(BigInteger[] a, BigInteger[] b) {
        BigInteger[] c = new BigInteger[a.length + b.length - 1];
        Arrays.fill(c, BigInteger.ZERO);
        for (int i = 0; i < a.length; i++) {
            for (int j = 0; j < b.length; j++) {
                c[i + j] = c[i + j].add(a[i].multiply(b[j]));
            }
        }
        return c;
    }

    private static BigInteger[] euclid(BigInteger[] p, BigInteger[] q) {
        BigInteger[] u = primitive(p);
        BigInteger[] v = primitive(q);
        while (v.length > 0) {
            BigInteger[] r = primitive(rest(u, v));
            u = v;
            v = r;
        }
        return u;
    }

    /** The rest of u divided by v, times a power of v's leading coefficient. */
    private static BigInteger[] rest(BigInteger[] u, BigInteger[] v) {
        BigInteger[] r = u.clone();
        BigInteger lead = v[v.length - 1];
        for (int i = u.length - v.length; i >= 0; i--) {
            BigInteger head = r[i + v.length - 1];
            for (int j = 0; j < r.length; j++) {
                r[j] = r[j].multiply(lead);
            }
            for (int j = 0; j < v.length; j++) {
                r[i + j] = r[i + j].subtract(head.multiply(v[j]));
            }
        }
        int n = r.length;
        while (n > 0 && r[n - 1].signum() == 0) {
            n--;
        }
        return Arrays.copyOf(r, n);
    }

    private static BigInteger[] primitive(BigInteger[] f) {
        BigInteger content = BigInteger.ZERO;
        for (BigInteger v : f) {
            content = content.gcd(v);
        }
        BigInteger[] c = f.clone();
        for (int i = 0; i < c.length; i++) {
            c[i] = c[i].divide(f[f.length - 1].signum() < 0 ? content.negate() : content);
        }
        return c;
    }
}
