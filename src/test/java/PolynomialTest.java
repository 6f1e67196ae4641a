/** Promises 1 to 6: a new object, and THE POLYNOMIAL. */
public final class PolynomialTest {
    private PolynomialTest() {
    }

    public static void main(String[] args) {
        promise1NewObject();
        promise2Coefficient();
        promise2WrongInputs();
        promise3Degree();
        promise4Roots();
        promise4DoubleRootsCountOnce();
        promise4CloseRoots();
        promise5RootsIn();
        promise5Ends();
        promise5WrongInputs();
        promise6SignAt();
        promise6DoubleRoots();
        promise6WrongInputs();
        Check.end();
    }

    private static void promise1NewObject() {
        RootDesk x = new RootDesk();
        Check.same("NONE", RootDesk.NONE, -1);
        Check.same("degree", x.degree(), -1);
        Check.same("roots", x.roots(), -1);
        Check.same("character 0", x.character(0), -1);
        for (int a = 0; a < 8; a++) {
            Check.same("sign", x.sign(a), 0);
            Check.same("weight", x.weight(a), 1);
            Check.same("size", x.size(a), 20);
            Check.same("compare", x.compare(a, 0), 0);
            Check.same("rootsIn", x.rootsIn(a, 7), -1);
            Check.same("signAt", x.signAt(a), 0);
        }
        for (int i = 0; i <= 6; i++) {
            Check.same("coefficient", x.coefficient(i, 0), 0);
        }
        Check.same("take", x.take(0, 0), false);
        Check.same("print", x.print(7, 30), 1);
        Check.same("character 0", x.character(0), '0');
    }

    private static void promise2Coefficient() {
        RootDesk x = new RootDesk();
        for (int i = 0; i <= 6; i++) {
            Check.same("first", x.coefficient(i, 1000 - i), 0);
            Check.same("second", x.coefficient(i, -1000 + i), 1000 - i);
            Check.same("third", x.coefficient(i, i), -1000 + i);
        }
        for (int i = 0; i <= 6; i++) {
            Check.same("kept", x.coefficient(i, i), i);
        }
    }

    private static void promise2WrongInputs() {
        RootDesk x = new RootDesk();
        Check.polynomial(x, 3, -4, 1);
        int[][] wrong = {{-1, 0}, {7, 0}, {0, 1001}, {0, -1001}, {6, 1001}, {7, 1001},
            {Integer.MIN_VALUE, 0}, {Integer.MAX_VALUE, 0}, {2, Integer.MIN_VALUE}, {2, Integer.MAX_VALUE}};
        for (int[] w : wrong) {
            Check.illegal("coefficient(" + w[0] + ", " + w[1] + ")", () -> x.coefficient(w[0], w[1]));
        }
        Check.same("c(0)", x.coefficient(0, 3), 3);
        Check.same("c(2)", x.coefficient(2, 1), 1);
        Check.same("roots", x.roots(), 2);
    }

    private static void promise3Degree() {
        RootDesk x = new RootDesk();
        x.coefficient(0, 7);
        Check.same("constant", x.degree(), 0);
        for (int i = 1; i <= 6; i++) {
            x.coefficient(i, -1);
            Check.same("up", x.degree(), i);
        }
        x.coefficient(3, 0);
        Check.same("a gap", x.degree(), 6);
        x.coefficient(6, 0);
        Check.same("without c(6)", x.degree(), 5);
        x.coefficient(5, 0);
        x.coefficient(4, 0);
        Check.same("past the gap", x.degree(), 2);
        Check.polynomial(x);
        Check.same("all 0", x.degree(), RootDesk.NONE);
    }

    private static void roots(int due, int... c) {
        RootDesk x = new RootDesk();
        Check.polynomial(x, c);
        Check.same("roots of " + java.util.Arrays.toString(c), x.roots(), due);
        for (int i = 0; i < due; i++) {
            Check.same("take", x.take(i, i), true);
            Check.same("is a root", x.signAt(i), 0);
        }
        for (int i = 1; i < due; i++) {
            Check.same("in order", x.compare(i - 1, i), -1);
        }
        Check.same("no more", x.take(7, due), false);
    }

    private static void promise4Roots() {
        roots(0, 5);
        roots(1, 0, 5);
        roots(1, -1, 3);
        roots(0, 1, 0, 1);
        roots(2, -2, 0, 1);
        roots(1, 0, 0, 1);
        roots(1, -2, 0, 0, 1);
        roots(3, 1, -3, 0, 1);
        roots(4, 1, 0, -10, 0, 1);
        roots(5, 0, 24, -50, 35, -10, 1);
        roots(6, -36, 0, 49, 0, -14, 0, 1);
        roots(6, -20, -1, 101, 5, -85, -4, 4);
        roots(6, -1, 0, 18, 0, -48, 0, 32);
        roots(2, -1, -1, 0, 0, 0, 0, 1);
        roots(2, -1000, 0, 0, 0, 0, 0, 1);
        roots(2, -1, 0, 0, 0, 0, 0, 1000);
        roots(1, 1000, 1);
        roots(2, -1000, -1000, -1000, -1000, -1000, -1000, 1);
        roots(2, 0, 0, 0, 0, 0, 1, 1000);
    }

    private static void promise4DoubleRootsCountOnce() {
        roots(1, 1, -2, 1);
        roots(1, 0, 0, 0, 0, 0, 0, -3);
        roots(1, 1, 6, 15, 20, 15, 6, 1);
        roots(2, 4, 0, -4, 0, 1);
        roots(2, -8, 0, 12, 0, -6, 0, 1);
        roots(0, 1, 0, 2, 0, 1);
        roots(2, 0, 0, 1, -2, 1);
        roots(3, 0, 4, 0, -4, 0, 1);
        roots(1, 1, -6, 9);
    }

    private static void promise4CloseRoots() {
        // x^6 - 2 (22 x - 1)^2: two roots that differ by some 0.000006
        roots(4, -2, 88, -968, 0, 0, 0, 1);
        roots(2, 999, -1000, 1);
        roots(2, -1000, 1, 1000);
        // discriminants 1, 0 and -3
        roots(2, 499, -999, 500);
        roots(1, 500, -1000, 500);
        roots(0, 763, -999, 327);
    }

    private static void promise5RootsIn() {
        RootDesk x = new RootDesk();
        Check.polynomial(x, 0, 24, -50, 35, -10, 1);
        x.fraction(0, -1, 1);
        x.fraction(1, 5, 2);
        x.fraction(2, 100, 1);
        Check.same("all", x.rootsIn(0, 2), 5);
        Check.same("left", x.rootsIn(0, 1), 3);
        Check.same("right", x.rootsIn(1, 2), 2);
        Check.same("backwards", x.rootsIn(2, 0), 0);
        Check.same("nowhere", x.rootsIn(1, 1), 0);
        Check.polynomial(x, 1, 0, 1);
        Check.same("no roots at all", x.rootsIn(0, 2), 0);
        Check.polynomial(x, -4);
        Check.same("a constant", x.rootsIn(0, 2), 0);
        Check.polynomial(x);
        Check.same("all coefficients 0", x.rootsIn(0, 2), RootDesk.NONE);
        Check.same("all coefficients 0", x.rootsIn(2, 0), RootDesk.NONE);
    }

    private static void promise5Ends() {
        RootDesk x = new RootDesk();
        Check.polynomial(x, 1, 0, -10, 0, 1);
        for (int i = 0; i < 4; i++) {
            x.take(i, i);
        }
        Check.same("above the first, up to the last", x.rootsIn(0, 3), 3);
        Check.same("one step", x.rootsIn(1, 2), 1);
        Check.same("a root alone", x.rootsIn(2, 2), 0);
        Check.same("backwards", x.rootsIn(3, 0), 0);
        // the same roots by another way: square roots of 2 and 3
        x.fraction(4, 2, 1);
        x.root(4, 4, 2);
        x.fraction(5, 3, 1);
        x.root(5, 5, 2);
        x.add(6, 4, 5);
        x.subtract(7, 4, 5);
        Check.same("from the difference to the sum", x.rootsIn(7, 6), 2);
        Check.same("from the sum on", x.rootsIn(6, 3), 0);
        Check.same("up to the difference", x.rootsIn(0, 7), 1);
        Check.polynomial(x, 0, -1, 3, -3, 1);
        x.fraction(0, 0, 1);
        x.fraction(1, 1, 1);
        Check.same("a root of three once, 0 not", x.rootsIn(0, 1), 1);
    }

    private static void promise5WrongInputs() {
        RootDesk x = new RootDesk();
        Check.illegal("a = -1", () -> x.rootsIn(-1, 0));
        Check.illegal("a = 8", () -> x.rootsIn(8, 0));
        Check.illegal("b = -1", () -> x.rootsIn(0, -1));
        Check.illegal("b = 8", () -> x.rootsIn(0, 8));
        Check.polynomial(x, 1, 1);
        Check.illegal("b = 8", () -> x.rootsIn(0, Integer.MAX_VALUE));
        Check.illegal("a = 8", () -> x.rootsIn(Integer.MIN_VALUE, 0));
    }

    private static void promise6SignAt() {
        RootDesk x = new RootDesk();
        Check.polynomial(x, -2, 0, 1);
        x.fraction(1, 707107, 500000);
        x.fraction(2, 707106, 500000);
        x.take(3, 1);
        x.take(4, 0);
        Check.same("at 0", x.signAt(0), -1);
        Check.same("just above", x.signAt(1), 1);
        Check.same("just below", x.signAt(2), -1);
        Check.same("at the root", x.signAt(3), 0);
        Check.same("at the other root", x.signAt(4), 0);
        Check.polynomial(x, 1, 0, -10, 0, 1);
        x.fraction(5, 3, 1);
        x.root(5, 5, 2);
        x.add(6, 3, 5);
        Check.same("at a sum of roots", x.signAt(6), 0);
        Check.same("at another number", x.signAt(5), -1);
        Check.polynomial(x, 0, 0, 0, 0, 0, 0, 0);
        Check.same("all coefficients 0", x.signAt(6), 0);
        Check.polynomial(x, -7);
        Check.same("a constant below 0", x.signAt(6), -1);
        Check.polynomial(x, 7);
        Check.same("a constant above 0", x.signAt(6), 1);
        Check.polynomial(x, 0, -3);
        Check.same("falling, above", x.signAt(6), -1);
        Check.same("falling, at 0", x.signAt(0), 0);
        Check.same("falling, below", x.signAt(4), 1);
    }

    private static void promise6DoubleRoots() {
        RootDesk x = new RootDesk();
        Check.polynomial(x, -4, 0, 4, 0, -1);
        x.fraction(1, 3, 2);
        x.fraction(2, -3, 2);
        x.fraction(3, 2, 1);
        x.root(3, 3, 2);
        Check.same("beside a double root", x.signAt(0), -1);
        Check.same("behind it", x.signAt(1), -1);
        Check.same("before the other", x.signAt(2), -1);
        Check.same("at it", x.signAt(3), 0);
        Check.polynomial(x, -1, 3, -3, 1);
        x.fraction(4, 999999, 1000000);
        x.fraction(5, 1000000, 999999);
        Check.same("before a triple root", x.signAt(4), -1);
        Check.same("behind it", x.signAt(5), 1);
    }

    private static void promise6WrongInputs() {
        RootDesk x = new RootDesk();
        Check.illegal("-1", () -> x.signAt(-1));
        Check.illegal("8", () -> x.signAt(8));
        Check.polynomial(x, 1, 1);
        Check.illegal("least", () -> x.signAt(Integer.MIN_VALUE));
        Check.illegal("greatest", () -> x.signAt(Integer.MAX_VALUE));
    }
}
