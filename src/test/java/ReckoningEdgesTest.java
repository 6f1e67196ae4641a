/** The sentences of promises 12 to 16, one by one: at each boundary, and on both sides of it. */
public final class ReckoningEdgesTest {
    private static final int MIN = Integer.MIN_VALUE;
    private static final int MAX = Integer.MAX_VALUE;

    private ReckoningEdgesTest() {
    }

    public static void main(String[] args) {
        promises12To15AnyMayBeTheSame();
        promises12To15OnBothSidesOfZero();
        promise15Zero();
        promise16Exponents();
        promise16NotBelowZero();
        promise16BelowZero();
        Check.end();
    }

    /** "(any may be the same)". */
    private static void promises12To15AnyMayBeTheSame() {
        String[] twice = {"5656854249", "0", "8000000000", "1000000000"};
        String[] rootFirst = {"5828427124", "-171572876", "8485281374", "942809041"};
        String[] threeFirst = {"5828427124", "171572875", "8485281374", "1060660171"};
        for (int op = 0; op < 4; op++) {
            RootDesk x = pair();
            Check.same("a = b", Check.PAIRS[op].on(x, 2, 0, 0), true);
            Check.is(x, 2, twice[op], 9, 4, 108);
            Check.same("a = b = to", Check.PAIRS[op].on(x, 0, 0, 0), true);
            Check.is(x, 0, twice[op], 9, 4, 108);
            for (int to = 0; to <= 1; to++) {
                x = pair();
                Check.same("to = a or to = b", Check.PAIRS[op].on(x, to, 0, 1), true);
                Check.is(x, to, rootFirst[op], 9, 2, 80);
                x = pair();
                Check.same("to = a or to = b", Check.PAIRS[op].on(x, to, 1, 0), true);
                Check.is(x, to, threeFirst[op], 9, 2, 80);
                Check.same("the other stays", Check.text(x, 1 - to, 9), to == 0 ? "3000000000" : "2828427124");
            }
        }
    }

    /** The square root of 8 in slot 0, of WEIGHT 2 and SIZE 20; 3 in slot 1, as a fraction. */
    private static RootDesk pair() {
        RootDesk x = new RootDesk();
        x.fraction(0, 8, 1);
        x.root(0, 0, 2);
        x.fraction(1, 3, 1);
        return x;
    }

    /** Sums and differences that are 0, just above it and just below; products and quotients around 0. */
    private static void promises12To15OnBothSidesOfZero() {
        RootDesk x = new RootDesk();
        Check.root(x, 0, 1, -2, 0, 1);
        x.negate(1, 0);
        around(x, 999999, 500000, "70710695796333", "-70710695796334");
        around(x, 2, 1, "0", "0");
        around(x, 1000000, 499999, "-141421568369698", "141421568369697");
        x.fraction(2, 1, 3);
        int[] beside = {333333, 333334};
        int[] due = {1, -1};
        for (int i = 0; i < 2; i++) {
            x.fraction(3, beside[i], 1000000);
            Check.same("subtract", x.subtract(4, 2, 3), true);
            Check.same("beside 1 / 3", x.sign(4), due[i]);
            x.negate(3, 3);
            Check.same("add", x.add(4, 3, 2), true);
            Check.same("beside 1 / 3", x.sign(4), due[i]);
        }
        for (int p = -1; p <= 1; p++) {
            x.fraction(3, p, 1000000);
            for (int a = 0; a < 2; a++) {
                Check.same("multiply", x.multiply(4, a, 3), true);
                Check.same("sign of the product", x.sign(4), p * x.sign(a));
                Check.same("multiply", x.multiply(4, 3, a), true);
                Check.same("sign of the product", x.sign(4), p * x.sign(a));
                Check.same("divide", x.divide(4, 3, a), true);
                Check.same("sign of the quotient", x.sign(4), p * x.sign(a));
            }
        }
    }

    /** The square root of 2 less that of p / q, from slots 0 (itself) and 1 (its opposite). */
    private static void around(RootDesk x, int p, int q, String due, String opposite) {
        x.fraction(2, p, q);
        x.root(2, 2, 2);
        Check.same("subtract", x.subtract(3, 0, 2), true);
        Check.is(x, 3, due, 20, 4, 88);
        Check.same("add", x.add(3, 1, 2), true);
        Check.is(x, 3, opposite, 20, 4, 88);
        Check.same("add", x.add(3, 2, 1), true);
        Check.is(x, 3, opposite, 20, 4, 88);
    }

    /** "Arithmetic: b is 0.": whichever way it came to be 0, and whatever a is; next to 0 it is not. */
    private static void promise15Zero() {
        RootDesk x = Check.zeros();
        for (int b = 1; b < 8; b++) {
            int zero = b;
            for (int a = 0; a < 8; a++) {
                int of = a;
                Check.arithmetic("slot " + a + " by the 0 of slot " + b, () -> x.divide(0, of, zero));
                Check.arithmetic("into itself", () -> x.divide(zero, of, zero));
            }
            Check.illegal("the slot goes first", () -> x.divide(-1, 0, zero));
            Check.illegal("the slot goes first", () -> x.divide(0, 8, zero));
        }
        Check.is(x, 0, "1414", 3, 2, 10);
        x.fraction(1, 1, 1000000);
        Check.same("by 0.000001", x.divide(2, 0, 1), true);
        Check.is(x, 2, "1414213", 0, 2, 70);
        x.fraction(1, -1, 1000000);
        Check.same("by -0.000001", x.divide(2, 0, 1), true);
        Check.is(x, 2, "-1414214", 0, 2, 70);
        Check.same("0 by another", x.divide(2, 7, 1), true);
        Check.is(x, 2, "0", 30, 1, 53);
    }

    /** "the real k-th root of a, k being 2 or 3". */
    private static void promise16Exponents() {
        RootDesk x = new RootDesk();
        x.fraction(0, 64, 1);
        int[] wrong = {MIN, -3, -2, -1, 0, 1, 4, 5, 6, 258, 259, MAX};
        for (int k : wrong) {
            Check.illegal("k = " + k, () -> x.root(1, 0, k));
            Check.is(x, 1, "0", 0, 1, 20);
        }
        Check.same("k = 2", x.root(1, 0, 2), true);
        Check.is(x, 1, "8", 0, 2, 20);
        Check.same("k = 3", x.root(1, 0, 3), true);
        Check.is(x, 1, "4", 0, 3, 20);
        // next to a number whose root is whole
        int[] p = {63, 64, 65};
        String[] square = {"7937253933193", "8000000000000", "8062257748298"};
        String[] cube = {"3979057207896", "4000000000000", "4020725758589"};
        for (int i = 0; i < 3; i++) {
            x.fraction(2, p[i], 1);
            x.root(3, 2, 2);
            Check.is(x, 3, square[i], 12, 2, 20);
            x.root(3, 2, 3);
            Check.is(x, 3, cube[i], 12, 3, 20);
        }
    }

    /** "not below 0 for 2"; for 3 it has the sign of a. */
    private static void promise16NotBelowZero() {
        RootDesk x = new RootDesk();
        for (int p = -1; p <= 1; p++) {
            x.fraction(0, p, 1000000);
            Check.same("k = 3", x.root(1, 0, 3), true);
            Check.is(x, 1, "" + p, 2, 3, 20);
            Check.same("sign", x.sign(1), p);
            if (p >= 0) {
                Check.same("k = 2", x.root(1, 0, 2), true);
                Check.is(x, 1, "" + p, 3, 2, 20);
                Check.same("sign", x.sign(1), p);
            }
        }
        // from a polynomial with roots on both sides of 0, and 0
        Check.polynomial(x, 0, -2, 0, 1);
        for (int i = 0; i < 3; i++) {
            x.take(0, i);
            int side = i - 1;
            Check.same("too great for 3", x.root(1, 0, 3), false);
            if (side >= 0) {
                Check.same("k = 2", x.root(2, 0, 2), true);
                Check.same("sign", x.sign(2), side);
                Check.is(x, 2, side == 0 ? "0" : "1189207115", 9, 6, 10);
            }
        }
        Check.polynomial(x, -2, 0, 1);
        String[] due = {"-1122462049", "1122462048"};
        for (int i = 0; i < 2; i++) {
            x.take(0, i);
            Check.same("k = 3", x.root(1, 0, 3), true);
            Check.is(x, 1, due[i], 9, 6, 10);
        }
    }

    /** "Arithmetic: k is 2, and a is below 0.": 0 is not, and k = 3 is not barred. */
    private static void promise16BelowZero() {
        RootDesk x = Check.zeros();
        Check.tiny(x, 1, 2);
        x.negate(2, 1);
        Check.same("of 10^-24", x.root(3, 1, 2), true);
        Check.is(x, 3, "1000000000000000000", 30, 2, 119);
        Check.arithmetic("of -10^-24", () -> x.root(3, 2, 2));
        Check.is(x, 3, "1000000000000000000", 30, 2, 119);
        Check.same("of -10^-24, k = 3", x.root(3, 2, 3), true);
        Check.is(x, 3, "-1", 8, 3, 119);
        Check.same("of 0", x.root(3, 7, 2), true);
        Check.is(x, 3, "0", 30, 2, 20);
        Check.same("of -0", x.root(3, 5, 2), true);
        Check.is(x, 3, "0", 30, 2, 20);
        // the square root of 2 less 1.414212, and less 1.414214
        int[] p = {707106, 707107};
        for (int i = 0; i < 2; i++) {
            x.fraction(4, p[i], 500000);
            x.subtract(5, 0, 4);
            Check.same("sign", x.sign(5), 1 - 2 * i);
            if (i == 0) {
                Check.same("above 0", x.root(6, 5, 2), true);
                Check.is(x, 6, "1249949236", 12, 4, 70);
            } else {
                Check.arithmetic("below 0", () -> x.root(6, 5, 2));
                Check.same("below 0, k = 3", x.root(6, 5, 3), true);
                Check.is(x, 6, "-7592206375", 12, 6, 70);
            }
        }
    }
}
