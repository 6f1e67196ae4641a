/** The sentences of promises 1 to 6, one by one: at each boundary, and on both sides of it. */
public final class PolynomialEdgesTest {
    private static final int MIN = Integer.MIN_VALUE;
    private static final int MAX = Integer.MAX_VALUE;

    private PolynomialEdgesTest() {
    }

    public static void main(String[] args) {
        promise1NothingPrinted();
        promise1ObjectsAreApart();
        promise2WhatItWas();
        promise3Degree();
        promise4HowMany();
        promise4None();
        promise5Greater();
        promise5NotGreater();
        promise5BothEnds();
        promise5None();
        promise5NextToTheEnds();
        promise6Sign();
        promise6NextToARoot();
        promise6AllZero();
        Check.end();
    }

    /** "RootDesk(): .. nothing printed". */
    private static void promise1NothingPrinted() {
        RootDesk x = new RootDesk();
        int[] all = {MIN, -1, 0, 1, 159, 160, 161, MAX};
        for (int i : all) {
            Check.same("character " + i, x.character(i), RootDesk.NONE);
        }
        x.fraction(0, 5, 1);
        Check.illegal("print", () -> x.print(0, 31));
        Check.same("refused, so nothing printed still", x.character(0), RootDesk.NONE);
        Check.same("print", x.print(0, 0), 1);
        Check.same("printed", x.character(0), '5');
    }

    /** "A new object": what is done to one is not seen in another. */
    private static void promise1ObjectsAreApart() {
        RootDesk x = new RootDesk();
        Check.root(x, 7, 1, -2, 0, 1);
        x.print(7, 30);
        RootDesk y = new RootDesk();
        Check.same("degree", y.degree(), RootDesk.NONE);
        Check.same("roots", y.roots(), RootDesk.NONE);
        Check.same("character", y.character(0), RootDesk.NONE);
        Check.is(y, 7, "0", 30, 1, 20);
        Check.polynomial(y, -3, 0, 0, 1);
        y.take(7, 0);
        y.print(7, 3);
        Check.same("what x has printed", Check.text(x, 31), "1414213562373095048801688724209");
        Check.is(x, 7, "1414", 3, 2, 10);
        Check.is(y, 7, "1442", 3, 3, 10);
        Check.same("degree", x.degree(), 2);
        Check.same("roots", x.roots(), 2);
    }

    /** "c(i) becomes v: what it was." */
    private static void promise2WhatItWas() {
        RootDesk x = new RootDesk();
        int[] row = {0, 1000, 1000, -1000, 0, -1, 1, 999, -999, 0};
        for (int i = 0; i <= 6; i++) {
            int was = 0;
            for (int v : row) {
                Check.same("what it was", x.coefficient(i, v), was);
                was = v;
            }
        }
        int[][] wrong = {{-1, 0}, {7, 0}, {0, 1001}, {0, -1001}, {6, 1001}, {6, -1001}};
        x.coefficient(0, 3);
        x.coefficient(6, 4);
        for (int[] w : wrong) {
            Check.illegal("coefficient(" + w[0] + ", " + w[1] + ")", () -> x.coefficient(w[0], w[1]));
            Check.same("c(0)", x.coefficient(0, 3), 3);
            Check.same("c(6)", x.coefficient(6, 4), 4);
        }
    }

    /** "The DEGREE.": after each change anew. */
    private static void promise3Degree() {
        RootDesk x = new RootDesk();
        int[] at = {0, 6, 3, 6, 3, 0};
        int[] to = {-1000, 1, 1000, 0, 0, 0};
        int[] due = {0, 6, 6, 3, 0, RootDesk.NONE};
        for (int i = 0; i < at.length; i++) {
            x.coefficient(at[i], to[i]);
            Check.same("degree", x.degree(), due[i]);
            Check.same("again", x.degree(), due[i]);
        }
    }

    /** "How many ROOTS THE POLYNOMIAL has": from 0 to 6 of them, and anew after each change. */
    private static void promise4HowMany() {
        RootDesk x = new RootDesk();
        // a parabola above, upon and below the line
        int[] height = {1, 0, -1, 0, 1};
        int[] due = {0, 1, 2, 1, 0};
        Check.polynomial(x, 0, 0, 1);
        for (int i = 0; i < height.length; i++) {
            x.coefficient(0, height[i]);
            Check.same("x^2 + " + height[i], x.roots(), due[i]);
            Check.same("again", x.roots(), due[i]);
        }
        // x^3 - 3 x + c: three roots, then two at c = 2, then one
        int[] lift = {-3, -2, -1, 0, 1, 2, 3};
        int[] count = {1, 2, 3, 3, 3, 2, 1};
        Check.polynomial(x, 0, -3, 0, 1);
        for (int i = 0; i < lift.length; i++) {
            x.coefficient(0, lift[i]);
            Check.same("x^3 - 3 x + " + lift[i], x.roots(), count[i]);
        }
        // 32 x^6 - 48 x^4 + 18 x^2 + c, which has its lows at c = 0 and its highs at c = -2
        int[] c = {-3, -2, -1, 0, 1};
        int[] six = {2, 4, 6, 3, 0};
        Check.polynomial(x, 0, 0, 18, 0, -48, 0, 32);
        for (int i = 0; i < c.length; i++) {
            x.coefficient(0, c[i]);
            Check.same("degree 6, c = " + c[i], x.roots(), six[i]);
        }
    }

    /** "NONE if all coefficients are 0": a constant that is not 0 has 0 roots instead. */
    private static void promise4None() {
        RootDesk x = new RootDesk();
        Check.same("all 0", x.roots(), RootDesk.NONE);
        int[] constants = {1, -1, 1000, -1000};
        for (int v : constants) {
            x.coefficient(0, v);
            Check.same("a constant", x.roots(), 0);
            x.coefficient(0, 0);
            Check.same("all 0 again", x.roots(), RootDesk.NONE);
        }
        for (int i = 1; i <= 6; i++) {
            x.coefficient(i, 1);
            Check.same("x^" + i, x.roots(), 1);
            x.coefficient(i, 0);
            Check.same("all 0 again", x.roots(), RootDesk.NONE);
        }
    }

    /** "greater than the number of slot a": a root there does not count, one next above does. */
    private static void promise5Greater() {
        RootDesk x = new RootDesk();
        Check.polynomial(x, -1, 3);
        x.fraction(7, 1000, 1);
        x.fraction(0, 333333, 1000000);
        x.fraction(1, 1, 3);
        x.fraction(2, 333334, 1000000);
        Check.same("from just below", x.rootsIn(0, 7), 1);
        Check.same("from there", x.rootsIn(1, 7), 0);
        Check.same("from just above", x.rootsIn(2, 7), 0);
        // the same for a double root that is not rational, and from a slot with another WEIGHT
        Check.polynomial(x, 100, 0, -20, 0, 1);
        Check.besideRootOfTen(x, 0, 2, 3);
        x.fraction(1, 10, 1);
        x.root(1, 1, 2);
        Check.same("from just below", x.rootsIn(0, 7), 1);
        Check.same("from there", x.rootsIn(1, 7), 0);
        Check.same("from just above", x.rootsIn(2, 7), 0);
    }

    /** ".. and not greater than that of slot b": a root there counts. */
    private static void promise5NotGreater() {
        RootDesk x = new RootDesk();
        Check.polynomial(x, -1, 3);
        x.fraction(7, -1000, 1);
        x.fraction(0, 333333, 1000000);
        x.fraction(1, 1, 3);
        x.fraction(2, 333334, 1000000);
        Check.same("to just below", x.rootsIn(7, 0), 0);
        Check.same("to there", x.rootsIn(7, 1), 1);
        Check.same("to just above", x.rootsIn(7, 2), 1);
        Check.polynomial(x, 100, 0, -20, 0, 1);
        Check.besideRootOfTen(x, 0, 2, 3);
        x.fraction(1, 10, 1);
        x.root(1, 1, 2);
        Check.same("to just below", x.rootsIn(7, 0), 1);
        Check.same("to there", x.rootsIn(7, 1), 2);
        Check.same("to just above", x.rootsIn(7, 2), 2);
    }

    /** From each of six roots to each: as many as lie between, with the last. */
    private static void promise5BothEnds() {
        RootDesk x = new RootDesk();
        Check.polynomial(x, -1, 0, 18, 0, -48, 0, 32);
        for (int i = 0; i < 6; i++) {
            x.take(i, i);
        }
        for (int i = 0; i < 6; i++) {
            for (int j = 0; j < 6; j++) {
                Check.same("from " + i + " to " + j, x.rootsIn(i, j), Math.max(0, j - i));
            }
        }
        x.fraction(6, -1000000, 1);
        x.fraction(7, 1000000, 1);
        Check.same("all", x.rootsIn(6, 7), 6);
        Check.same("none backwards", x.rootsIn(7, 6), 0);
        Check.same("none in nothing", x.rootsIn(7, 7), 0);
    }

    /** "NONE if all coefficients are 0. IllegalArgument.": a slot that there is not is refused even then. */
    private static void promise5None() {
        RootDesk x = new RootDesk();
        x.fraction(1, 1, 1);
        int[] wrong = {-1, 8, MIN, MAX};
        for (int w : wrong) {
            Check.illegal("all 0, a", () -> x.rootsIn(w, 0));
            Check.illegal("all 0, b", () -> x.rootsIn(0, w));
            Check.illegal("all 0, both", () -> x.rootsIn(w, w));
        }
        for (int a = 0; a < 2; a++) {
            for (int b = 0; b < 2; b++) {
                Check.polynomial(x);
                Check.same("all 0", x.rootsIn(a, b), RootDesk.NONE);
                Check.polynomial(x, -1);
                Check.same("a constant", x.rootsIn(a, b), 0);
                Check.polynomial(x, 0, 0, 1);
                Check.same("x^2", x.rootsIn(a, b), 0);
                Check.polynomial(x, -1, 1);
                Check.same("x - 1", x.rootsIn(a, b), a < b ? 1 : 0);
            }
        }
    }

    /** Two roots that differ by some 0.000006, and the number between them. */
    private static void promise5NextToTheEnds() {
        RootDesk x = new RootDesk();
        Check.polynomial(x, -2, 88, -968, 0, 0, 0, 1);
        x.take(0, 1);
        x.take(1, 2);
        x.fraction(2, 1, 22);
        Check.same("between", x.rootsIn(0, 1), 1);
        Check.same("to the middle", x.rootsIn(0, 2), 0);
        Check.same("from the middle", x.rootsIn(2, 1), 1);
        x.fraction(3, 0, 1);
        Check.same("to the first", x.rootsIn(3, 0), 1);
        Check.same("to the middle", x.rootsIn(3, 2), 1);
        Check.same("to the second", x.rootsIn(3, 1), 2);
    }

    /** "The sign of what THE POLYNOMIAL is at the number of slot a: -1, 0, 1." */
    private static void promise6Sign() {
        RootDesk x = new RootDesk();
        for (int i = 0; i < 7; i++) {
            x.fraction(i, i - 3, 1);
        }
        // (x + 2) (x + 1) x (x - 1) (x - 2), and its opposite
        int[] due = {-1, 0, 0, 0, 0, 0, 1};
        Check.polynomial(x, 0, 4, 0, -5, 0, 1);
        for (int i = 0; i < 7; i++) {
            Check.same("at " + (i - 3), x.signAt(i), due[i]);
        }
        Check.polynomial(x, 0, -4, 0, 5, 0, -1);
        for (int i = 0; i < 7; i++) {
            Check.same("at " + (i - 3), x.signAt(i), -due[i]);
        }
        // far away from all roots, and at 0
        Check.polynomial(x, -1000, 1000, -1000, 1000, -1000, 1000, -1);
        x.fraction(0, 1000000, 1);
        x.fraction(1, 0, 1);
        x.fraction(2, 998, 1);
        Check.same("far away", x.signAt(0), -1);
        Check.same("at 0", x.signAt(1), -1);
        Check.same("between", x.signAt(2), 1);
        Check.illegal("-1", () -> x.signAt(-1));
        Check.same("slot 0", x.signAt(0), -1);
        Check.same("slot 7", x.signAt(7), -1);
        Check.illegal("8", () -> x.signAt(8));
    }

    /** At the root, and at fractions that differ from it by less than 10^-46. */
    private static void promise6NextToARoot() {
        RootDesk x = new RootDesk();
        Check.besideRootOfTen(x, 0, 2, 3);
        x.fraction(1, 10, 1);
        x.root(1, 1, 2);
        signs(x, -1, 0, 1, -10, 0, 1);
        signs(x, 1, 0, -1, 10, 0, -1);
        signs(x, 1, 0, 1, 100, 0, -20, 0, 1);
        signs(x, -1, 0, -1, -100, 0, 20, 0, -1);
        signs(x, -1, 0, 1, -1000, 0, 300, 0, -30, 0, 1);
        // the next root is 19 / 6, which is but 0.004 further
        signs(x, 1, 0, -1, 190, -60, -19, 6);
        x.negate(4, 0);
        x.negate(0, 2);
        x.negate(2, 4);
        x.negate(1, 1);
        signs(x, 1, 0, -1, -10, 0, 1);
        signs(x, 1, 0, -1, -1000, 0, 300, 0, -30, 0, 1);
    }

    private static void signs(RootDesk x, int below, int at, int above, int... c) {
        Check.polynomial(x, c);
        Check.same("below", x.signAt(0), below);
        Check.same("there", x.signAt(1), at);
        Check.same("above", x.signAt(2), above);
    }

    /** With all coefficients 0, THE POLYNOMIAL is 0 at every number; with one that is not, it has its sign. */
    private static void promise6AllZero() {
        RootDesk x = new RootDesk();
        x.fraction(1, -5, 3);
        x.fraction(2, 2, 1);
        x.root(2, 2, 2);
        int[] constants = {0, 1, -1, 1000, -1000, 0};
        for (int v : constants) {
            x.coefficient(0, v);
            for (int a = 0; a < 3; a++) {
                Check.same("constant " + v, x.signAt(a), Integer.signum(v));
            }
        }
        Check.illegal("all 0", () -> x.signAt(-1));
        Check.illegal("all 0", () -> x.signAt(8));
    }
}
