/** Promises 12 to 16: sums, differences, products, quotients and roots. */
public final class ReckoningTest {
    private ReckoningTest() {
    }

    public static void main(String[] args) {
        promise12Add();
        promise12SameSlots();
        promise12TooGreat();
        promise13Subtract();
        promise14Multiply();
        promise15Divide();
        promise15Zero();
        promise16Root();
        promise16RootOfIrrational();
        promise16Refusals();
        greatestSizes();
        wrongSlots();
        refusalsChangeNothing();
        Check.end();
    }

    /** Square roots of 2 and 3 in slots 0 and 1, cube root of 3 in slot 2, 1 / 3 in slot 3. */
    private static RootDesk desk() {
        RootDesk x = new RootDesk();
        Check.polynomial(x, -2, 0, 1);
        x.take(0, 1);
        Check.polynomial(x, -3, 0, 1);
        x.take(1, 1);
        Check.polynomial(x, -3, 0, 0, 1);
        x.take(2, 0);
        x.fraction(3, 1, 3);
        return x;
    }

    private static void promise12Add() {
        RootDesk x = desk();
        Check.same("add", x.add(4, 0, 1), true);
        Check.is(x, 4, "3146264369941972342329135065715", 30, 4, 68);
        Check.same("add", x.add(4, 0, 2), true);
        Check.is(x, 4, "2856463132680503431123327034989", 30, 6, 86);
        Check.same("add", x.add(4, 2, 0), true);
        Check.is(x, 4, "2856463132680503431123327034989", 30, 6, 86);
        Check.same("add", x.add(4, 0, 3), true);
        Check.is(x, 4, "17475468957", 10, 2, 70);
        Check.same("add", x.add(4, 3, 3), true);
        Check.is(x, 4, "6666", 4, 1, 53);
        x.negate(5, 0);
        Check.same("add", x.add(4, 0, 5), true);
        Check.is(x, 4, "0", 30, 4, 68);
        Check.same("sign of a + (-a)", x.sign(4), 0);
        Check.polynomial(x, 1, 0, -10, 0, 1);
        Check.same("add", x.add(4, 0, 1), true);
        Check.same("its polynomial", x.signAt(4), 0);
    }

    private static void promise12SameSlots() {
        RootDesk x = desk();
        Check.same("add", x.add(0, 0, 0), true);
        Check.is(x, 0, "28284271247", 10, 4, 68);
        x.fraction(5, -7, 2);
        Check.same("add", x.add(5, 5, 3), true);
        Check.is(x, 5, "-3166667", 6, 1, 53);
        Check.same("add", x.add(5, 3, 5), true);
        Check.is(x, 5, "-2833334", 6, 1, 86);
        Check.same("add", x.add(3, 3, 5), true);
        Check.is(x, 3, "-25", 1, 1, 119);
    }

    private static void promise12TooGreat() {
        RootDesk x = desk();
        x.fraction(7, 5, 9);
        Check.same("weight 9", x.add(7, 2, 2), false);
        x.add(4, 0, 1);
        Check.same("weight 8", x.add(7, 4, 0), false);
        Check.same("weight 4, size 142 or more", x.add(7, 4, 3), false);
        Check.is(x, 7, "555", 3, 1, 20);
        // sizes that meet the limit just so: 10, 50, 90, 130
        Check.polynomial(x, -1, 1);
        x.take(5, 0);
        Check.same("50", x.add(6, 0, 5), true);
        Check.same("90", x.add(6, 6, 5), true);
        Check.same("130", x.add(6, 6, 5), true);
        Check.is(x, 6, "44142135", 7, 2, 130);
        Check.same("170", x.add(6, 6, 5), false);
        Check.is(x, 6, "44142135", 7, 2, 130);
        // of weight 1, the sizes go 20, 43, 66, 89, 112
        x.fraction(4, 1, 1);
        x.add(4, 4, 5);
        x.add(4, 4, 5);
        x.add(4, 4, 5);
        x.add(4, 4, 5);
        Check.is(x, 4, "5", 0, 1, 112);
        Check.same("135", x.add(4, 4, 5), false);
        Check.same("1 and 1", x.add(7, 5, 5), true);
        Check.is(x, 7, "2", 0, 1, 33);
        // whichever comes first, the same comes out
        Check.polynomial(x, -2, 0, 0, 0, 0, 0, 1);
        x.take(4, 1);
        Check.same("6 and 1", x.add(6, 4, 5), true);
        Check.is(x, 6, "21224620", 7, 6, 118);
        Check.same("1 and 6", x.add(6, 5, 4), true);
        Check.is(x, 6, "21224620", 7, 6, 118);
        Check.same("6 and a fraction", x.add(6, 4, 3), false);
        Check.same("6 and 6", x.add(6, 4, 4), false);
    }

    private static void promise13Subtract() {
        RootDesk x = desk();
        Check.same("subtract", x.subtract(4, 1, 0), true);
        Check.is(x, 4, "317837245195782244725757617296", 30, 4, 68);
        Check.same("subtract", x.subtract(4, 0, 1), true);
        Check.is(x, 4, "-317837245195782244725757617297", 30, 4, 68);
        Check.same("subtract", x.subtract(4, 2, 2), false);
        Check.same("subtract", x.subtract(4, 0, 0), true);
        Check.is(x, 4, "0", 30, 4, 68);
        Check.same("subtract", x.subtract(4, 0, 2), true);
        Check.is(x, 4, "-2803600794", 11, 6, 86);
        Check.same("subtract", x.subtract(0, 3, 0), true);
        Check.is(x, 0, "-1080881", 6, 2, 70);
        // of the four roots that may be meant, two are but 0.001 from one another
        x.fraction(4, 999999, 1);
        x.root(4, 4, 2);
        x.fraction(5, 999998, 1);
        x.root(5, 5, 2);
        Check.same("subtract", x.subtract(6, 4, 5), true);
        Check.is(x, 6, "500000375000437500585938347", 30, 4, 108);
        Check.same("subtract", x.subtract(6, 5, 4), true);
        Check.is(x, 6, "-500000375000437500585938348", 30, 4, 108);
    }

    private static void promise14Multiply() {
        RootDesk x = desk();
        Check.same("multiply", x.multiply(4, 0, 1), true);
        Check.is(x, 4, "2449489742783178098197284074705", 30, 4, 68);
        Check.same("multiply", x.multiply(4, 0, 2), true);
        Check.is(x, 4, "2039648902655", 12, 6, 86);
        Check.same("multiply", x.multiply(4, 0, 0), true);
        Check.is(x, 4, "2000000000000000000000000000000", 30, 4, 68);
        x.negate(5, 0);
        Check.same("multiply", x.multiply(4, 5, 0), true);
        Check.is(x, 4, "-2000000000000000000000000000000", 30, 4, 68);
        Check.same("multiply", x.multiply(4, 5, 5), true);
        Check.is(x, 4, "2", 0, 4, 68);
        Check.same("multiply", x.multiply(4, 5, 3), true);
        Check.is(x, 4, "-4714045208", 10, 2, 70);
        Check.same("multiply", x.multiply(4, 6, 1), true);
        Check.is(x, 4, "0", 30, 2, 70);
        Check.same("multiply", x.multiply(4, 1, 6), true);
        Check.is(x, 4, "0", 30, 2, 70);
        Check.same("multiply", x.multiply(4, 2, 2), false);
        Check.is(x, 4, "0", 30, 2, 70);
        Check.same("multiply", x.multiply(3, 3, 3), true);
        Check.is(x, 3, "111", 3, 1, 53);
    }

    private static void promise15Divide() {
        RootDesk x = desk();
        Check.same("divide", x.divide(4, 1, 0), true);
        Check.is(x, 4, "1224744871391589049098642037352", 30, 4, 68);
        Check.same("divide", x.divide(4, 0, 0), true);
        Check.is(x, 4, "1000000000000000000000000000000", 30, 4, 68);
        x.negate(5, 2);
        Check.same("divide", x.divide(4, 0, 5), true);
        Check.is(x, 4, "-9805610", 7, 6, 86);
        Check.same("divide", x.divide(4, 0, 3), true);
        Check.is(x, 4, "42426406", 7, 2, 70);
        Check.same("divide", x.divide(4, 6, 0), true);
        Check.is(x, 4, "0", 30, 2, 70);
        Check.same("divide", x.divide(4, 2, 2), false);
        x.fraction(5, 2, 7);
        Check.same("divide", x.divide(5, 3, 5), true);
        Check.is(x, 5, "116666", 5, 1, 53);
    }

    private static void promise15Zero() {
        RootDesk x = desk();
        Check.arithmetic("a / 0", () -> x.divide(4, 0, 6));
        Check.arithmetic("0 / 0", () -> x.divide(4, 6, 6));
        x.subtract(4, 1, 1);
        Check.same("0 of weight 4", x.weight(4), 4);
        Check.arithmetic("Arithmetic goes before a WEIGHT that is too great", () -> x.divide(5, 2, 4));
        Check.illegal("IllegalArgument goes before Arithmetic", () -> x.divide(8, 2, 4));
        Check.illegal("IllegalArgument goes before Arithmetic", () -> x.divide(0, -1, 4));
    }

    private static void promise16Root() {
        RootDesk x = new RootDesk();
        x.fraction(0, 2, 1);
        Check.same("root", x.root(1, 0, 2), true);
        Check.is(x, 1, "1414213562373095048801688724209", 30, 2, 20);
        Check.same("root", x.root(1, 0, 3), true);
        Check.is(x, 1, "1259921049894873164767210607278", 30, 3, 20);
        x.fraction(0, -2, 1);
        Check.same("root", x.root(1, 0, 3), true);
        Check.is(x, 1, "-1259921049894873164767210607279", 30, 3, 20);
        x.fraction(0, 9, 16);
        Check.same("root", x.root(1, 0, 2), true);
        Check.is(x, 1, "75", 2, 2, 20);
        x.fraction(0, -8, 27);
        Check.same("root", x.root(1, 0, 3), true);
        Check.is(x, 1, "-666667", 6, 3, 20);
        x.fraction(2, -2, 3);
        Check.same("-2 / 3", x.compare(1, 2), 0);
        Check.same("root of 0", x.root(1, 7, 2), true);
        Check.is(x, 1, "0", 30, 2, 20);
        Check.same("root of 0", x.root(1, 7, 3), true);
        Check.is(x, 1, "0", 30, 3, 20);
        x.fraction(0, 1, 1000000);
        Check.same("into the same slot", x.root(0, 0, 2), true);
        Check.is(x, 0, "1", 3, 2, 20);
        Check.same("root of a root", x.root(0, 0, 3), true);
        Check.is(x, 0, "100000000000000000000000000000", 30, 6, 20);
        Check.same("no further", x.root(0, 0, 2), false);
        Check.is(x, 0, "1", 1, 6, 20);
    }

    private static void promise16RootOfIrrational() {
        RootDesk x = new RootDesk();
        // the golden ratio, among the roots 0, 1 and its fellow
        Check.polynomial(x, 0, -1, -1, 1);
        x.take(0, 2);
        Check.same("root", x.root(1, 0, 2), true);
        Check.is(x, 1, "1272019649514068964252422461737", 30, 6, 10);
        x.invert(2, 1);
        Check.is(x, 2, "786151377757423286069558585842", 30, 6, 10);
        x.invert(2, 2);
        Check.same("and back", x.compare(1, 2), 0);
        x.take(0, 0);
        Check.same("of a number below 0", x.root(2, 0, 3), false);
        Check.polynomial(x, -1, -1, 1);
        x.take(0, 0);
        Check.same("of a number below 0", x.root(2, 0, 3), true);
        Check.is(x, 2, "-851799643", 9, 6, 10);
        Check.polynomial(x, 1, -3, 1);
        x.take(3, 1);
        Check.same("root", x.root(3, 3, 2), true);
        Check.is(x, 3, "1618033988", 9, 4, 10);
        x.take(4, 0);
        Check.same("root", x.root(4, 4, 2), true);
        Check.same("root of 0.38..", Check.text(x, 4, 9), "618033988");
    }

    private static void promise16Refusals() {
        RootDesk x = new RootDesk();
        x.fraction(0, -1, 1000000);
        x.fraction(1, 3, 1);
        int[] wrong = {-2, 0, 1, 4, Integer.MIN_VALUE, Integer.MAX_VALUE};
        for (int k : wrong) {
            Check.illegal("k = " + k, () -> x.root(1, 1, k));
            Check.illegal("IllegalArgument goes first, k = " + k, () -> x.root(1, 0, k));
        }
        Check.arithmetic("below 0", () -> x.root(1, 0, 2));
        Check.is(x, 1, "3", 0, 1, 20);
        Check.polynomial(x, -2, 0, 0, 0, 0, 0, 1);
        x.take(2, 0);
        Check.arithmetic("Arithmetic goes before a WEIGHT that is too great", () -> x.root(1, 2, 2));
        Check.same("weight 18", x.root(1, 2, 3), false);
        x.negate(2, 2);
        Check.same("weight 12", x.root(1, 2, 2), false);
        Check.is(x, 1, "3", 0, 1, 20);
    }

    private static void greatestSizes() {
        RootDesk x = new RootDesk();
        x.fraction(0, 999983, 999979);
        x.fraction(1, 999961, 999959);
        x.multiply(0, 0, 1);
        x.multiply(0, 0, 0);
        Check.same("size", x.size(0), 119);
        x.root(2, 0, 2);
        x.root(2, 2, 3);
        Check.is(x, 2, "1000002000054001655389832076849", 30, 6, 119);
        x.fraction(0, 1, 1000000);
        x.multiply(0, 0, 0);
        x.multiply(0, 0, 0);
        x.invert(1, 0);
        Check.is(x, 1, "1000000000000000000000000000000000000000000000000000000", 30, 1, 119);
        Check.is(x, 0, "1000000", 30, 1, 119);
        // all coefficients as great as they may be
        Check.polynomial(x, -999, 1000, -998, 997, -1000, 999);
        x.take(3, 0);
        Check.polynomial(x, 997, 999);
        x.take(4, 0);
        Check.same("5 and 1", x.add(5, 3, 4), true);
        Check.same("its size", x.size(5), 101);
        Check.same("997 / 999 less", x.compare(5, 3), -1);
        Check.same("no room for the way back", x.subtract(6, 5, 4), false);
    }

    private static void wrongSlots() {
        RootDesk x = new RootDesk();
        int[] wrong = {-1, 8, Integer.MIN_VALUE, Integer.MAX_VALUE};
        for (int w : wrong) {
            Check.illegal("add to", () -> x.add(w, 0, 0));
            Check.illegal("add a", () -> x.add(0, w, 0));
            Check.illegal("add b", () -> x.add(0, 0, w));
            Check.illegal("subtract to", () -> x.subtract(w, 0, 0));
            Check.illegal("subtract a", () -> x.subtract(0, w, 0));
            Check.illegal("subtract b", () -> x.subtract(0, 0, w));
            Check.illegal("multiply to", () -> x.multiply(w, 0, 0));
            Check.illegal("multiply a", () -> x.multiply(0, w, 0));
            Check.illegal("multiply b", () -> x.multiply(0, 0, w));
            Check.illegal("divide to", () -> x.divide(w, 0, 0));
            Check.illegal("divide a", () -> x.divide(0, w, 0));
            Check.illegal("divide b", () -> x.divide(0, 0, w));
            Check.illegal("root to", () -> x.root(w, 0, 2));
            Check.illegal("root of", () -> x.root(0, w, 2));
        }
    }

    private static void refusalsChangeNothing() {
        RootDesk x = desk();
        x.negate(4, 0);
        int n = x.print(4, 20);
        String before = Check.state(x, n);
        Check.arithmetic("invert", () -> x.invert(0, 7));
        Check.arithmetic("divide", () -> x.divide(0, 1, 7));
        Check.arithmetic("root", () -> x.root(0, 4, 2));
        Check.illegal("root", () -> x.root(0, 4, 5));
        Check.illegal("print", () -> x.print(0, 31));
        Check.illegal("take", () -> x.take(8, 0));
        Check.illegal("fraction", () -> x.fraction(0, 1, 0));
        Check.illegal("coefficient", () -> x.coefficient(3, 1001));
        Check.same("add", x.add(0, 2, 2), false);
        Check.same("subtract", x.subtract(0, 2, 2), false);
        Check.same("multiply", x.multiply(0, 2, 2), false);
        Check.same("divide", x.divide(0, 2, 2), false);
        Check.same("take", x.take(0, 5), false);
        Check.same("the whole state", Check.state(x, n), before);
    }
}
