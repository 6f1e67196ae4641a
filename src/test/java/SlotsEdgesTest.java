/** The sentences of promises 7 to 11, 21 and 22, one by one: at each boundary, and on both sides of it. */
public final class SlotsEdgesTest {
    private static final int MIN = Integer.MIN_VALUE;
    private static final int MAX = Integer.MAX_VALUE;

    private SlotsEdgesTest() {
    }

    public static void main(String[] args) {
        promise7WhetherThereIsOne();
        promise7AllZero();
        promise7NoSuchSlot();
        promise8Numerators();
        promise8Denominators();
        promise9Copy();
        promise10Negate();
        promise11Invert();
        promise11Zero();
        promises21And22Slots();
        Check.end();
    }

    /** "whether there is one (false .. for any other i)". */
    private static void promise7WhetherThereIsOne() {
        int[][] all = {{7}, {-1, 1}, {-1, 0, 1}, {0, -1, 0, 1}, {4, 0, -5, 0, 1}, {0, 4, 0, -5, 0, 1},
            {-36, 0, 49, 0, -14, 0, 1}};
        for (int n = 0; n <= 6; n++) {
            RootDesk x = new RootDesk();
            x.fraction(3, 22, 7);
            Check.polynomial(x, all[n]);
            int[] wrong = {MIN, MIN + 1, -7, -2, -1, n, n + 1, 6, 7, 1 << 8, 1 << 16, MAX};
            for (int i : wrong) {
                if (i < 0 || i >= n) {
                    Check.same("take " + i + " of " + n, x.take(3, i), false);
                }
            }
            Check.is(x, 3, "3142857", 6, 1, 20);
            for (int i = 0; i < n; i++) {
                Check.same("take " + i + " of " + n, x.take(4, i), true);
                Check.same("it is a root", x.signAt(4), 0);
                x.fraction(5, -1000000, 1);
                Check.same("as many are not greater", x.rootsIn(5, 4), i + 1);
            }
        }
    }

    /** "(false with all coefficients 0 ..)". */
    private static void promise7AllZero() {
        RootDesk x = new RootDesk();
        x.fraction(0, 1, 2);
        int[] all = {MIN, -1, 0, 1, MAX};
        for (int i : all) {
            Check.same("take " + i, x.take(0, i), false);
        }
        Check.polynomial(x, 0, 1);
        Check.polynomial(x);
        Check.same("all 0 again", x.take(0, 0), false);
        Check.is(x, 0, "5", 1, 1, 20);
    }

    /** "IllegalArgument: there is no such slot": and for no other reason. */
    private static void promise7NoSuchSlot() {
        RootDesk x = new RootDesk();
        int[] wrong = {MIN, -1, 8, MAX};
        for (int w : wrong) {
            Check.polynomial(x);
            Check.illegal("all 0", () -> x.take(w, 0));
            Check.polynomial(x, -1, 1);
            Check.illegal("root 0", () -> x.take(w, 0));
            Check.illegal("root -1", () -> x.take(w, -1));
            Check.illegal("root 1", () -> x.take(w, 1));
        }
        Check.same("slot 0", x.take(0, 0), true);
        Check.same("slot 7", x.take(7, 0), true);
    }

    /** "if p is not -1,000,000 .. 1,000,000". */
    private static void promise8Numerators() {
        RootDesk x = new RootDesk();
        int[] right = {-1000000, -999999, -1, 0, 1, 999999, 1000000};
        for (int p : right) {
            x.fraction(0, p, 1);
            Check.is(x, 0, "" + p, 0, 1, 20);
            Check.same("sign", x.sign(0), Integer.signum(p));
        }
        int[] wrong = {MIN, -1000002, -1000001, 1000001, 1000002, MAX};
        for (int p : wrong) {
            Check.illegal("p = " + p, () -> x.fraction(0, p, 1));
            Check.illegal("p = " + p, () -> x.fraction(0, p, 1000000));
        }
        Check.is(x, 0, "1000000", 0, 1, 20);
    }

    /** "or q not 1 .. 1,000,000". */
    private static void promise8Denominators() {
        RootDesk x = new RootDesk();
        int[] right = {1, 2, 999999, 1000000};
        String[] due = {"7000000000000", "3500000000000", "7000007", "7000000"};
        String[] below = {"-7000000000000", "-3500000000000", "-7000008", "-7000000"};
        for (int i = 0; i < right.length; i++) {
            x.fraction(0, 7, right[i]);
            Check.is(x, 0, due[i], 12, 1, 20);
            x.fraction(0, -7, right[i]);
            Check.is(x, 0, below[i], 12, 1, 20);
        }
        int[] wrong = {MIN, -1000000, -1, 0, 1000001, MAX};
        for (int q : wrong) {
            Check.illegal("q = " + q, () -> x.fraction(0, 7, q));
            Check.illegal("q = " + q, () -> x.fraction(0, 0, q));
        }
        Check.is(x, 0, "-7", 6, 1, 20);
    }

    /** "Slot to gets what slot a has, with its WEIGHT and SIZE." */
    private static void promise9Copy() {
        RootDesk x = new RootDesk();
        Check.root(x, 0, 1, -2, 0, 0, 0, 0, 0, 1);
        x.fraction(7, 5, 1);
        x.copy(7, 0);
        Check.is(x, 7, "1122", 3, 6, 10);
        x.copy(7, 7);
        Check.is(x, 7, "1122", 3, 6, 10);
        // neither hangs on the other
        x.negate(0, 0);
        Check.is(x, 7, "1122", 3, 6, 10);
        x.fraction(7, 1, 1);
        Check.is(x, 0, "-1123", 3, 6, 10);
        x.copy(0, 1);
        Check.is(x, 0, "0", 3, 1, 20);
    }

    /** "Slot to gets - a": of 0 it is 0. */
    private static void promise10Negate() {
        RootDesk x = new RootDesk();
        x.negate(0, 1);
        Check.is(x, 0, "0", 30, 1, 20);
        Check.same("sign", x.sign(0), 0);
        Check.tiny(x, 2, 3);
        x.negate(3, 2);
        Check.is(x, 2, "1", 24, 1, 119);
        Check.is(x, 3, "-1", 24, 1, 119);
        Check.same("around 0", x.compare(3, 0) + x.compare(0, 2), -2);
        x.negate(3, 3);
        Check.same("and back", x.compare(2, 3), 0);
        // each root of six becomes the one on the other side
        Check.polynomial(x, -36, 0, 49, 0, -14, 0, 1);
        for (int i = 0; i < 6; i++) {
            x.take(4, i);
            x.take(5, 5 - i);
            x.negate(6, 4);
            Check.same("root " + i, x.compare(5, 6), 0);
        }
        // from lopsided neighbours
        Check.root(x, 4, 0, -1, -1, 1);
        x.negate(4, 4);
        Check.is(x, 4, "618033", 6, 2, 10);
    }

    /** "Slot to gets 1 / a": next to 0 on both sides, and at 1 and -1. */
    private static void promise11Invert() {
        RootDesk x = new RootDesk();
        Check.tiny(x, 0, 7);
        x.invert(1, 0);
        Check.is(x, 1, "1000000000000000000000000", 0, 1, 119);
        x.invert(2, 1);
        Check.same("and back", x.compare(0, 2), 0);
        x.negate(0, 0);
        x.invert(1, 0);
        Check.is(x, 1, "-1000000000000000000000000", 0, 1, 119);
        x.invert(1, 1);
        Check.same("and back", x.compare(0, 1), 0);
        int[] ones = {1, -1};
        for (int v : ones) {
            x.fraction(3, v, 1);
            x.invert(4, 3);
            Check.same("itself", x.compare(3, 4), 0);
            x.fraction(3, 1000000 * v, 1);
            x.invert(4, 3);
            Check.is(x, 4, "" + v, 6, 1, 20);
        }
        // the roots of 1000 x^6 + .. next to 0, and those of the polynomial read backwards
        Check.root(x, 5, 0, 1, 1000, 1000, 1000, 1000, 1000, 1000);
        Check.root(x, 6, 1, 1, 1000, 1000, 1000, 1000, 1000, 1000);
        x.invert(5, 5);
        x.invert(6, 6);
        Check.polynomial(x, 1000, 1000, 1000, 1000, 1000, 1000, 1);
        Check.same("a root of the other", x.signAt(5), 0);
        Check.same("a root of the other", x.signAt(6), 0);
    }

    /** "Arithmetic: a is 0." */
    private static void promise11Zero() {
        RootDesk x = Check.zeros();
        int[] weights = {4, 2, 2, 3, 1, 5, 1};
        for (int a = 1; a < 8; a++) {
            int zero = a;
            Check.same("weight", x.weight(a), weights[a - 1]);
            Check.arithmetic("invert 0 of slot " + a, () -> x.invert(0, zero));
            Check.arithmetic("invert 0 into itself", () -> x.invert(zero, zero));
            Check.illegal("the slot goes first", () -> x.invert(8, zero));
        }
        Check.is(x, 0, "1414", 3, 2, 10);
    }

    /** "The WEIGHT of a slot's number." and "Its SIZE.": slots 0 and 7, and those beyond. */
    private static void promises21And22Slots() {
        RootDesk x = new RootDesk();
        Check.root(x, 0, 0, -2, 0, 0, 1);
        Check.root(x, 7, 0, -2, 0, 0, 0, 0, 1);
        Check.same("weight 0", x.weight(0), 3);
        Check.same("weight 7", x.weight(7), 5);
        Check.same("size 0", x.size(0), 10);
        Check.same("size 7", x.size(7), 10);
        Check.same("weight 1", x.weight(1), 1);
        Check.same("size 6", x.size(6), 20);
        int[] wrong = {MIN, -2, -1, 8, 9, 256, MAX};
        for (int w : wrong) {
            Check.illegal("weight", () -> x.weight(w));
            Check.illegal("size", () -> x.size(w));
        }
    }
}
