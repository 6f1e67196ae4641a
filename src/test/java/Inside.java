import java.lang.reflect.Constructor;
import java.lang.reflect.Field;
import java.lang.reflect.Method;
import java.math.BigInteger;

/** Reaches the classes inside the program, for tests of what hardly ever shows in calls of the face. */
final class Inside {
    static final Class<?> BIG = find("Big");
    static final Class<?> POLY = find("Poly");
    static final Class<?> DIVIDER = find("Divider");
    static final Class<?> MODULAR = find("Modular");

    private static final int LIMB = 30;

    private Inside() {
    }

    private static Class<?> find(String name) {
        for (Class<?> c : RootDesk.class.getDeclaredClasses()) {
            if (c.getSimpleName().equals(name)) {
                return c;
            }
        }
        throw new IllegalStateException(name);
    }

    static Object make(Class<?> c, Object... parts) throws ReflectiveOperationException {
        Constructor<?> k = c.getDeclaredConstructors()[0];
        k.setAccessible(true);
        return k.newInstance(parts);
    }

    static Method method(Class<?> c, String name, Class<?>... kinds) throws ReflectiveOperationException {
        Method m = c.getDeclaredMethod(name, kinds);
        m.setAccessible(true);
        return m;
    }

    static Object get(Class<?> c, String name, Object o) throws ReflectiveOperationException {
        return field(c, name).get(o);
    }

    private static Field field(Class<?> c, String name) throws ReflectiveOperationException {
        Field f = c.getDeclaredField(name);
        f.setAccessible(true);
        return f;
    }

    /** The program's whole number with this value. */
    static Object big(BigInteger v) throws ReflectiveOperationException {
        Object o = make(BIG);
        BigInteger size = v.abs();
        int n = (size.bitLength() + LIMB - 1) / LIMB;
        int[] row = new int[Math.max(6, n)];
        for (int i = 0; i < n; i++) {
            row[i] = size.shiftRight(LIMB * i).intValue() & (1 << LIMB) - 1;
        }
        field(BIG, "limbs").set(o, row);
        field(BIG, "used").set(o, n);
        field(BIG, "signum").set(o, v.signum());
        return o;
    }

    static int limbs(Object big) throws ReflectiveOperationException {
        return (int) get(BIG, "used", big);
    }

    static BigInteger value(Object big) throws ReflectiveOperationException {
        int[] row = (int[]) get(BIG, "limbs", big);
        BigInteger v = BigInteger.ZERO;
        for (int i = limbs(big) - 1; i >= 0; i--) {
            v = v.shiftLeft(LIMB).add(BigInteger.valueOf(row[i]));
        }
        int s = (int) get(BIG, "signum", big);
        Check.same("sign", Math.abs(s), v.signum());
        return s < 0 ? v.negate() : v;
    }

    /** The program's polynomial with these coefficients, the last of which is not 0. */
    static Object poly(BigInteger[] c) throws ReflectiveOperationException {
        Object o = make(POLY);
        Object[] row = (Object[]) get(POLY, "c", o);
        for (int i = 0; i < c.length; i++) {
            row[i] = big(c[i]);
        }
        field(POLY, "deg").set(o, c.length - 1);
        return o;
    }

    static BigInteger[] coefficients(Object poly) throws ReflectiveOperationException {
        Object[] row = (Object[]) get(POLY, "c", poly);
        BigInteger[] c = new BigInteger[(int) get(POLY, "deg", poly) + 1];
        for (int i = 0; i < c.length; i++) {
            c[i] = value(row[i]);
        }
        return c;
    }
}
