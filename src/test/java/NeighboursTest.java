import java.math.BigDecimal;
import java.math.MathContext;
import java.math.RoundingMode;

/**
 * Numbers whose polynomial has another root close by, or in the way: what is made of them must not stray to
 * the neighbour. Many of them, since it depends on each one's digits whether it would.
 */
public final class NeighboursTest {
    private static final MathContext PLACES = new MathContext(120, RoundingMode.HALF_EVEN);
    private static final BigDecimal THREE = new BigDecimal(3);

    private NeighboursTest() {
    }

    public static void main(String[] args) {
        for (int m = 3; m < 500; m += 2) {
            for (int k = 0; k <= 12; k += 4) {
                inverseOfInverse(m, k, 1);
                inverseOfInverse(m, k, -1);
            }
        }
        int pairs = 0;
        for (int b = 600; b <= 1000; b++) {
            for (int rest = 1; rest <= 40; rest++) {
                pairs += closePair(b, rest);
            }
        }
        Check.same("pairs", pairs > 300, true);
        Check.end();
    }

    /** 1 / m, between the square roots of 2, known to some k places: its inverse is whole. */
    private static void inverseOfInverse(int m, int k, int side) {
        RootDesk x = new RootDesk();
        Check.root(x, 0, 1, 2 * side, -2 * m, -side, m);
        Check.same("characters", x.print(0, k) > 0, true);
        x.invert(1, 0);
        x.fraction(2, side * m, 1);
        String what = side + " / " + m + " to " + k + " places";
        Check.same(what, x.compare(1, 2), 0);
        Check.is(x, 1, "" + side * m, 0, 3, 10);
        x.invert(1, 1);
        x.invert(2, 2);
        Check.same(what, x.compare(1, 2), 0);
        Check.same(what, x.compare(1, 0), 0);
    }

    /** The roots of a x^2 - b x + c, which differ by the square root of rest over a: whether there are such. */
    private static int closePair(int b, int rest) {
        int product = (b * b - rest) / 4;
        int a = (int) Math.sqrt(product);
        while (a > 0 && product % a != 0) {
            a--;
        }
        if ((b * b - rest) % 4 != 0 || product / a > 1000) {
            return 0;
        }
        int c = product / a;
        BigDecimal half = new BigDecimal(rest).sqrt(PLACES);
        for (int i = 0; i < 2; i++) {
            BigDecimal due = new BigDecimal(b).add(i == 0 ? half.negate() : half).divide(new BigDecimal(2 * a), PLACES);
            RootDesk x = new RootDesk();
            Check.root(x, 0, i, c, -b, a);
            made(x, due);
            Check.root(x, 0, 1 - i, c, b, a);
            x.negate(0, 0);
            made(x, due);
        }
        return 1;
    }

    private static void made(RootDesk x, BigDecimal due) {
        x.root(1, 0, 2);
        is("square root", x, 1, due.sqrt(PLACES));
        x.root(2, 0, 3);
        is("cube root", x, 2, cubeRoot(due));
        x.negate(3, 0);
        x.root(3, 3, 3);
        is("cube root of the opposite", x, 3, cubeRoot(due).negate());
        x.invert(4, 0);
        is("inverse", x, 4, BigDecimal.ONE.divide(due, PLACES));
        x.fraction(5, 1, 3);
        x.add(6, 0, 5);
        is("sum", x, 6, due.add(BigDecimal.ONE.divide(THREE, PLACES)));
        x.divide(6, 5, 0);
        is("quotient", x, 6, BigDecimal.ONE.divide(due.multiply(THREE), PLACES));
        x.multiply(6, 0, 0);
        is("square", x, 6, due.multiply(due));
        is("the number itself", x, 0, due);
    }

    /** Numbers within 10^-90 of a whole one are taken for it. */
    private static void is(String what, RootDesk x, int a, BigDecimal due) {
        BigDecimal v = due.movePointRight(30);
        BigDecimal whole = v.setScale(0, RoundingMode.HALF_EVEN);
        boolean near = v.subtract(whole).abs().compareTo(BigDecimal.ONE.movePointLeft(60)) < 0;
        BigDecimal down = near ? whole : v.setScale(0, RoundingMode.FLOOR);
        Check.same(what + " near " + due.doubleValue(), Check.text(x, a, 30), down.toBigInteger().toString());
    }

    private static BigDecimal cubeRoot(BigDecimal v) {
        BigDecimal x = new BigDecimal(Math.cbrt(v.doubleValue()));
        for (int i = 0; i < 6; i++) {
            x = x.add(x).add(v.divide(x.multiply(x, PLACES), PLACES)).divide(THREE, PLACES);
        }
        return x;
    }
}
