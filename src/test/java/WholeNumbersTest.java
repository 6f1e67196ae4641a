import java.lang.reflect.Method;
import java.math.BigInteger;
import java.util.Random;

/**
 * The program's own whole numbers against Java's. Their rare ways (a quotient's limb guessed one too
 * great, a carry through all limbs) hardly ever show in calls of the face, so that they are tried here.
 */
public final class WholeNumbersTest {
    private static final int LIMB = 30;
    private static final Random RANDOM = new Random(7);

    private final Class<?> big = Inside.BIG;
    private final Class<?> dividerClass = Inside.DIVIDER;
    private final Object divider = Inside.make(Inside.DIVIDER);

    private WholeNumbersTest() throws ReflectiveOperationException {
    }

    public static void main(String[] args) throws ReflectiveOperationException {
        WholeNumbersTest t = new WholeNumbersTest();
        for (int i = 0; i < 30000; i++) {
            t.sums(number(8), number(8));
            t.quotients(number(8), number(5));
            t.shifts(number(6), RANDOM.nextInt(100));
            t.smallFactors(number(6), 1 + RANDOM.nextInt((1 << LIMB) - 1));
        }
        Check.end();
    }

    /** Limbs at the edges of their range, more often than chance would have them. */
    private static BigInteger number(int most) {
        int[] edges = {0, 1, (1 << LIMB) - 1, (1 << LIMB) - 2, 1 << LIMB - 1, (1 << LIMB - 1) - 1};
        BigInteger v = BigInteger.ZERO;
        for (int n = RANDOM.nextInt(most + 1); n > 0; n--) {
            int limb = RANDOM.nextInt(3) == 0 ? RANDOM.nextInt(1 << LIMB) : edges[RANDOM.nextInt(edges.length)];
            v = v.shiftLeft(LIMB).add(BigInteger.valueOf(limb));
        }
        return RANDOM.nextBoolean() ? v : v.negate();
    }

    private void sums(BigInteger a, BigInteger b) throws ReflectiveOperationException {
        Object x = make(a);
        Object y = make(b);
        Object z = make(number(3));
        call(z, "plus", x, y);
        same("plus", z, a.add(b));
        call(z, "minus", x, y);
        same("minus", z, a.subtract(b));
        call(z, "times", x, y);
        same("times", z, a.multiply(b));
        Object u = make(a);
        call(u, "plus", u, y);
        same("plus onto a", u, a.add(b));
        Object v = make(b);
        call(v, "minus", x, v);
        same("minus onto b", v, a.subtract(b));
        Check.same("rank", (int) method(big, "rank", big, big).invoke(null, x, y), a.compareTo(b));
    }

    private void quotients(BigInteger a, BigInteger b) throws ReflectiveOperationException {
        if (b.signum() == 0) {
            return;
        }
        Object q = make(number(2));
        Object r = make(number(2));
        Method divide = method(dividerClass, "quotient", big, big, big, big);
        divide.invoke(divider, make(a), make(b), q, r);
        same("quotient", q, a.divide(b));
        same("rest", r, a.remainder(b));
        divide.invoke(divider, make(a.multiply(b)), make(b), q, r);
        same("quotient without rest", q, a);
        same("no rest", r, BigInteger.ZERO);
        method(dividerClass, "common", big, big, big).invoke(divider, make(a), make(b), q);
        same("common divisor", q, a.gcd(b));
    }

    private void shifts(BigInteger a, int n) throws ReflectiveOperationException {
        Object x = make(a);
        method(big, "shiftUp", int.class).invoke(x, n);
        same("up by " + n, x, a.shiftLeft(n));
        x = make(a);
        method(big, "shiftDown", int.class).invoke(x, n);
        same("down by " + n, x, a.shiftRight(n));
        x = make(a);
        method(big, "shiftDownUp", int.class).invoke(x, n);
        same("down by " + n + ", rounded up", x, a.negate().shiftRight(n).negate());
        Check.same("bits", (int) method(big, "bits").invoke(make(a)), a.abs().bitLength());
    }

    private void smallFactors(BigInteger a, int d) throws ReflectiveOperationException {
        BigInteger factor = BigInteger.valueOf(d);
        Object x = make(a);
        method(big, "timesSmall", int.class).invoke(x, -d);
        same("times " + -d, x, a.multiply(factor).negate());
        x = make(a);
        int rest = (int) method(big, "divideSmall", int.class).invoke(x, d);
        same("divided by " + d, x, a.divide(factor));
        Check.same("rest", rest, a.abs().mod(factor).intValue());
        Check.same("modulo", (int) method(big, "modulo", int.class).invoke(make(a), d), a.mod(factor).intValue());
    }

    private void call(Object z, String name, Object x, Object y) throws ReflectiveOperationException {
        method(big, name, big, big).invoke(z, x, y);
    }

    private static Method method(Class<?> c, String name, Class<?>... kinds) throws ReflectiveOperationException {
        return Inside.method(c, name, kinds);
    }

    private static Object make(BigInteger v) throws ReflectiveOperationException {
        return Inside.big(v);
    }

    private static void same(String what, Object got, BigInteger due) throws ReflectiveOperationException {
        Check.same(what, Inside.value(got).toString(), due.toString());
        Check.same(what + ", limbs", Inside.limbs(got), (due.abs().bitLength() + LIMB - 1) / LIMB);
    }
}
