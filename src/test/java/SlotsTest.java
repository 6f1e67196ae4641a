/** Promises 7 to 11, 21 and 22: how single numbers come into slots, with their WEIGHT and SIZE. */
public final class SlotsTest {
    private SlotsTest() {
    }

    public static void main(String[] args) {
        promise7Take();
        promise7NoSuchRoot();
        promise7KeepsItsNumber();
        promise8Fraction();
        promise8WrongInputs();
        promise9Copy();
        promise10Negate();
        promise11Invert();
        promise11ManyTimes();
        promise11Zero();
        promises21And22WeightAndSize();
        wrongSlots();
        Check.end();
    }

    private static void promise7Take() {
        RootDesk x = new RootDesk();
        Check.polynomial(x, 6, -5, -2, 1);
        Check.same("take", x.take(0, 0), true);
        Check.same("take", x.take(1, 1), true);
        Check.same("take", x.take(7, 2), true);
        Check.is(x, 0, "-2000", 3, 3, 10);
        Check.is(x, 1, "1000", 3, 3, 10);
        Check.is(x, 7, "3000", 3, 3, 10);
        Check.polynomial(x, -1, 3);
        Check.same("take", x.take(2, 0), true);
        Check.is(x, 2, "333333333333333333333333333333", 30, 1, 10);
        // the WEIGHT is the DEGREE, whatever the root is
        Check.polynomial(x, 0, 0, 0, 0, 0, 0, 1);
        Check.same("take", x.take(3, 0), true);
        Check.is(x, 3, "0", 30, 6, 10);
        Check.polynomial(x, -1, -1, 0, 0, 0, 0, 1);
        Check.same("take", x.take(4, 1), true);
        Check.is(x, 4, "1134724138401519492605446054506", 30, 6, 10);
    }

    private static void promise7NoSuchRoot() {
        RootDesk x = new RootDesk();
        x.fraction(0, 5, 7);
        Check.same("all coefficients 0", x.take(0, 0), false);
        Check.polynomial(x, 9);
        Check.same("a constant", x.take(0, 0), false);
        Check.polynomial(x, -2, 0, 1);
        Check.same("-1", x.take(0, -1), false);
        Check.same("2", x.take(0, 2), false);
        Check.same("least", x.take(0, Integer.MIN_VALUE), false);
        Check.same("greatest", x.take(0, Integer.MAX_VALUE), false);
        Check.is(x, 0, "7142", 4, 1, 20);
    }

    private static void promise7KeepsItsNumber() {
        RootDesk x = new RootDesk();
        Check.polynomial(x, -2, 0, 1);
        x.take(0, 1);
        Check.polynomial(x, -3, 0, 1);
        x.take(1, 1);
        Check.is(x, 0, "14142135", 7, 2, 10);
        Check.is(x, 1, "17320508", 7, 2, 10);
    }

    private static void promise8Fraction() {
        RootDesk x = new RootDesk();
        x.fraction(0, 1, 3);
        Check.is(x, 0, "33333", 5, 1, 20);
        x.fraction(0, -1, 3);
        Check.is(x, 0, "-33334", 5, 1, 20);
        x.fraction(0, 0, 1000000);
        Check.is(x, 0, "0", 5, 1, 20);
        x.fraction(0, 1000000, 1);
        Check.is(x, 0, "1000000", 0, 1, 20);
        x.fraction(0, -1000000, 1);
        Check.is(x, 0, "-1000000", 0, 1, 20);
        x.fraction(0, 1000000, 1000000);
        Check.is(x, 0, "1", 0, 1, 20);
        x.fraction(7, 1, 1000000);
        Check.is(x, 7, "1", 6, 1, 20);
        x.fraction(7, 999999, 1000000);
        Check.is(x, 7, "0", 0, 1, 20);
        x.fraction(1, 6, 4);
        x.fraction(2, 3, 2);
        Check.same("6 / 4 is 3 / 2", x.compare(1, 2), 0);
        Check.polynomial(x, -2, 0, 1);
        x.take(3, 0);
        x.fraction(3, 1, 2);
        Check.is(x, 3, "5", 1, 1, 20);
    }

    private static void promise8WrongInputs() {
        RootDesk x = new RootDesk();
        x.fraction(0, 2, 3);
        int[][] wrong = {{0, 1000001, 1}, {0, -1000001, 1}, {0, 1, 0}, {0, 1, -1}, {0, 1, 1000001},
            {-1, 1, 1}, {8, 1, 1}, {0, Integer.MIN_VALUE, 1}, {0, 1, Integer.MIN_VALUE},
            {0, Integer.MAX_VALUE, 1}, {0, 1, Integer.MAX_VALUE}};
        for (int[] w : wrong) {
            Check.illegal("fraction " + w[0] + " " + w[1] + " " + w[2], () -> x.fraction(w[0], w[1], w[2]));
        }
        Check.is(x, 0, "666", 3, 1, 20);
    }

    private static void promise9Copy() {
        RootDesk x = new RootDesk();
        Check.polynomial(x, -2, 0, 0, 1);
        x.take(0, 0);
        x.copy(1, 0);
        Check.is(x, 1, "1259921", 6, 3, 10);
        x.copy(1, 1);
        Check.is(x, 1, "1259921", 6, 3, 10);
        x.fraction(0, 1, 1);
        Check.is(x, 1, "1259921", 6, 3, 10);
        x.copy(1, 2);
        Check.is(x, 1, "0", 6, 1, 20);
    }

    private static void promise10Negate() {
        RootDesk x = new RootDesk();
        Check.polynomial(x, -2, 0, 0, 1);
        x.take(0, 0);
        x.negate(1, 0);
        Check.is(x, 1, "-1259922", 6, 3, 10);
        Check.is(x, 0, "1259921", 6, 3, 10);
        x.negate(1, 1);
        Check.is(x, 1, "1259921", 6, 3, 10);
        Check.same("twice", x.compare(0, 1), 0);
        Check.polynomial(x, -1, -1, 0, 0, 0, 0, 1);
        x.take(2, 0);
        x.negate(2, 2);
        Check.is(x, 2, "77808959", 8, 6, 10);
        x.negate(3, 3);
        Check.is(x, 3, "0", 0, 1, 20);
        x.fraction(3, 5, 2);
        x.negate(3, 3);
        Check.is(x, 3, "-3", 0, 1, 20);
    }

    private static void promise11Invert() {
        RootDesk x = new RootDesk();
        Check.polynomial(x, -2, 0, 1);
        x.take(0, 1);
        x.take(1, 0);
        x.invert(2, 0);
        Check.is(x, 2, "70710678118654752440", 20, 2, 10);
        x.invert(1, 1);
        Check.is(x, 1, "-70710678118654752441", 20, 2, 10);
        x.fraction(3, -3, 1000000);
        x.invert(3, 3);
        Check.is(x, 3, "-333333333334", 6, 1, 20);
        x.fraction(3, 1, 8);
        x.invert(3, 3);
        Check.is(x, 3, "8", 0, 1, 20);
        // THE POLYNOMIAL has the root 0 as well
        Check.polynomial(x, 0, -1, -1, 1);
        x.take(4, 2);
        x.invert(5, 4);
        Check.is(x, 5, "618033", 6, 3, 10);
        x.take(4, 0);
        x.invert(5, 4);
        Check.is(x, 5, "-1618034", 6, 3, 10);
        // close to 0, and far away
        Check.polynomial(x, -1, 1000, 0, 0, 0, 0, 1000);
        x.take(6, 1);
        x.invert(7, 6);
        Check.is(x, 7, "1000000000000000999", 15, 6, 10);
        x.invert(7, 7);
        Check.same("twice", x.compare(6, 7), 0);
    }

    private static void promise11ManyTimes() {
        RootDesk x = new RootDesk();
        x.fraction(0, 2, 1);
        x.root(0, 0, 2);
        x.copy(1, 0);
        for (int i = 0; i < 400; i++) {
            x.invert(1, 1);
        }
        Check.same("an even number of times", x.compare(0, 1), 0);
        Check.is(x, 1, "1414213562373095048801688724209", 30, 2, 20);
        x.invert(1, 1);
        Check.is(x, 1, "707106781186547524400844362104", 30, 2, 20);
    }

    private static void promise11Zero() {
        RootDesk x = new RootDesk();
        x.fraction(1, 3, 4);
        Check.arithmetic("1 / 0", () -> x.invert(1, 0));
        Check.is(x, 1, "75", 2, 1, 20);
        Check.polynomial(x, -2, 0, 1);
        x.take(2, 1);
        x.subtract(3, 2, 2);
        Check.arithmetic("1 / (a - a)", () -> x.invert(1, 3));
        Check.illegal("the slot goes first", () -> x.invert(8, 0));
        Check.is(x, 1, "75", 2, 1, 20);
    }

    private static void promises21And22WeightAndSize() {
        RootDesk x = new RootDesk();
        int[] c = new int[7];
        for (int d = 1; d <= 6; d++) {
            c[0] = -2;
            c[d] = 1;
            Check.polynomial(x, c);
            c[d] = 0;
            x.take(d, d % 2 == 0 ? 1 : 0);
            Check.same("weight of a root", x.weight(d), d);
            Check.same("size of a root", x.size(d), 10);
        }
        x.negate(0, 5);
        Check.same("weight of -a", x.weight(0), 5);
        Check.same("size of -a", x.size(0), 10);
        x.fraction(7, 7, 5);
        x.add(7, 7, 7);
        x.root(0, 7, 3);
        Check.same("weight of a cube root", x.weight(0), 3);
        Check.same("size of a cube root", x.size(0), 53);
        x.invert(0, 0);
        Check.same("weight of 1 / a", x.weight(0), 3);
        Check.same("size of 1 / a", x.size(0), 53);
    }

    private static void wrongSlots() {
        RootDesk x = new RootDesk();
        int[] wrong = {-1, 8, Integer.MIN_VALUE, Integer.MAX_VALUE};
        for (int w : wrong) {
            Check.illegal("take", () -> x.take(w, 0));
            Check.illegal("copy to", () -> x.copy(w, 0));
            Check.illegal("copy of", () -> x.copy(0, w));
            Check.illegal("negate to", () -> x.negate(w, 0));
            Check.illegal("negate of", () -> x.negate(0, w));
            Check.illegal("invert to", () -> x.invert(w, 0));
            Check.illegal("invert of", () -> x.invert(0, w));
            Check.illegal("weight", () -> x.weight(w));
            Check.illegal("size", () -> x.size(w));
        }
    }
}
