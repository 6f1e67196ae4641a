/** The sentences of the document's "What it is" and "Terms", one by one, at each boundary and on both sides of it. */
public final class TermsTest {
    private static final String NOTHING = "no exception";

    private TermsTest() {
    }

    public static void main(String[] args) {
        call512();
        callsBeyond512();
        coefficientsZeroToSix();
        coefficientsUpToThousand();
        coefficientsZeroAtFirst();
        degreeIsTheGreatest();
        degreeNone();
        rootsEachOnce();
        rootsFromZeroOnLeastFirst();
        slotsZeroToSeven();
        slotsAtFirst();
        weightAndSizeOfFraction();
        weightAndSizeOfRoot();
        weightAndSizeOfPairs();
        weightAndSizeOfOpposites();
        weightAndSizeOfRadicals();
        weightAndSizeBoundNothingElse();
        weightAtMostSix();
        sizeAtMost130();
        Check.end();
    }

    /** "An object is used for at most 512 calls after it has been made": the last of them are as good as the first. */
    private static void call512() {
        RootDesk x = new RootDesk();
        x.fraction(0, 2, 1);
        x.root(0, 0, 2);
        x.root(0, 0, 3);
        x.copy(1, 0);
        for (int i = 4; i < 508; i += 2) {
            x.invert(1, 1);
            x.negate(1, 1);
        }
        Check.same("call 509", x.compare(0, 1), 0);
        Check.same("call 510", x.root(1, 1, 2), false);
        Check.same("call 511", x.print(1, 30), 31);
        Check.same("call 512", x.character(30), '9');
        Check.same("what was printed", Check.text(x, 31), "1122462048309372981433533049679");
    }

    /** "what later calls answer is free", but they answer, and throw nothing that the document does not list. */
    private static void callsBeyond512() {
        RootDesk x = new RootDesk();
        Check.polynomial(x, -999, 1000, -998, 997, -1000, 999, 1);
        x.take(0, 0);
        for (int i = 0; i < 3000; i++) {
            int a = i % 8;
            if (x.sign(0) != 0) {
                x.invert(1, 0);
            }
            x.coefficient(i % 7, i % 1001);
            x.take(a, 0);
            Check.same("root", Check.outcome(() -> x.root(a, a, 3)), NOTHING);
            Check.same("add", Check.outcome(() -> x.add(a, 1, a)), NOTHING);
            Check.same("print", Check.outcome(() -> x.print(a, 30)), NOTHING);
            x.compare(a, 7 - a);
            x.rootsIn(a, 0);
        }
    }

    /** "THE POLYNOMIAL has coefficients c(0) .. c(6)". */
    private static void coefficientsZeroToSix() {
        RootDesk x = new RootDesk();
        for (int i = 0; i <= 6; i++) {
            Check.same("first", x.coefficient(i, i + 1), 0);
        }
        for (int i = 0; i <= 6; i++) {
            Check.same("each its own", x.coefficient(i, 0), i + 1);
        }
    }

    /** "whole, -1000 .. 1000". */
    private static void coefficientsUpToThousand() {
        RootDesk x = new RootDesk();
        for (int i = 0; i <= 6; i++) {
            int at = i;
            x.coefficient(i, 999);
            Check.same("999", x.coefficient(i, 1000), 999);
            Check.same("1000", x.coefficient(i, -999), 1000);
            Check.same("-999", x.coefficient(i, -1000), -999);
            Check.illegal("1001", () -> x.coefficient(at, 1001));
            Check.illegal("-1001", () -> x.coefficient(at, -1001));
            Check.same("-1000", x.coefficient(i, 0), -1000);
        }
        Check.polynomial(x, -1000, 1);
        x.take(0, 0);
        Check.same("the greatest root of degree 1", Check.text(x, 0, 30), "1000000000000000000000000000000000");
        Check.polynomial(x, 1000, 1);
        x.take(0, 0);
        Check.same("the least root of degree 1", Check.text(x, 0, 0), "-1000");
        Check.polynomial(x, -1, 1000);
        x.take(0, 0);
        Check.same("the root of degree 1 next to 0", Check.text(x, 0, 3), "1");
        // 1001 - 10^-15: outside all that a bound of 1000 would hold
        Check.polynomial(x, -1000, -1000, -1000, -1000, -1000, -1000, 1);
        Check.same("roots", x.roots(), 2);
        x.take(0, 1);
        Check.same("the greatest root of all", Check.text(x, 0, 12), "1000999999999999");
        Check.polynomial(x, 1000, -1000, 1000, -1000, 1000, -1000, -1);
        x.take(0, 0);
        Check.same("the least root of all", Check.text(x, 0, 12), "-1001000000000000");
    }

    /** "all 0 at first". */
    private static void coefficientsZeroAtFirst() {
        for (int i = 0; i <= 6; i++) {
            RootDesk x = new RootDesk();
            Check.same("c(" + i + ")", x.coefficient(i, 5), 0);
            Check.same("the only one", x.degree(), i);
        }
    }

    /** "its DEGREE is the greatest i with c(i) not 0". */
    private static void degreeIsTheGreatest() {
        int[] edges = {1, -1, 1000, -1000};
        for (int v : edges) {
            for (int i = 0; i <= 6; i++) {
                RootDesk x = new RootDesk();
                x.coefficient(i, v);
                Check.same("alone", x.degree(), i);
                for (int j = 0; j < i; j++) {
                    x.coefficient(j, -v);
                    Check.same("with lower ones", x.degree(), i);
                }
                x.coefficient(i, 0);
                Check.same("without it", x.degree(), i - 1);
            }
        }
    }

    /** "(NONE without one)". */
    private static void degreeNone() {
        RootDesk x = new RootDesk();
        Check.same("at first", x.degree(), RootDesk.NONE);
        x.coefficient(0, 1);
        Check.same("a constant", x.degree(), 0);
        x.coefficient(0, 0);
        Check.same("no more", x.degree(), RootDesk.NONE);
        x.coefficient(6, -1);
        x.coefficient(6, 0);
        Check.same("no more", x.degree(), RootDesk.NONE);
    }

    /** "Its ROOTS are the real numbers x with .. = 0, each once". */
    private static void rootsEachOnce() {
        once(1, -1, 1);
        once(1, 1, -2, 1);
        once(1, -1, 3, -3, 1);
        once(1, 1, -4, 6, -4, 1);
        once(1, -1, 5, -10, 10, -5, 1);
        once(1, 1, -6, 15, -20, 15, -6, 1);
        // one of two, one of three and one of five alike beside another
        once(2, -2, 5, -4, 1);
        once(2, 2, -7, 9, -5, 1);
        once(2, 2, -11, 25, -30, 20, -7, 1);
        // three pairs; two triples
        once(3, 36, -132, 193, -144, 58, -12, 1);
        once(2, 8, -36, 66, -63, 33, -9, 1);
        // a double root next to two that are none: 1, 1 and 1 +- 1 / 10
        once(3, 99, -398, 599, -400, 100);
        // no real numbers, once and twice
        once(0, 1, 0, 1);
        once(0, 1, 0, 2, 0, 1);
        once(0, 1, 0, 3, 0, 3, 0, 1);
        // a real double root beside a double one that is not real
        once(1, 1, -2, 3, -4, 3, -2, 1);
    }

    private static void once(int due, int... c) {
        RootDesk x = new RootDesk();
        Check.polynomial(x, c);
        Check.same("roots", x.roots(), due);
        for (int i = 0; i < due; i++) {
            Check.same("take", x.take(i, i), true);
            Check.same("it is a root", x.signAt(i), 0);
            Check.same("each after the one before", i == 0 || x.compare(i - 1, i) < 0, true);
        }
        Check.same("no more", x.take(7, due), false);
        Check.same("none before", x.take(7, -1), false);
    }

    /** "counted from 0 on, the least first". */
    private static void rootsFromZeroOnLeastFirst() {
        int[][] all = {{-3, 1}, {6, -5, 1}, {0, -1, 0, 1}, {36, 0, -13, 0, 1}, {0, 4, 0, -5, 0, 1},
            {-36, 0, 49, 0, -14, 0, 1}};
        int[][] due = {{3}, {2, 3}, {-1, 0, 1}, {-3, -2, 2, 3}, {-2, -1, 0, 1, 2}, {-3, -2, -1, 1, 2, 3}};
        for (int n = 1; n <= 6; n++) {
            RootDesk x = new RootDesk();
            Check.polynomial(x, all[n - 1]);
            Check.same("how many", x.roots(), n);
            for (int i = 0; i < n; i++) {
                Check.same("take", x.take(5, i), true);
                Check.same("root " + i + " of " + n, Check.text(x, 5, 0), "" + due[n - 1][i]);
            }
            Check.same("one before the first", x.take(5, -1), false);
            Check.same("one behind the last", x.take(5, n), false);
            // the other way round, so that the least is the last of these
            for (int i = 1; i <= 6 && i < all[n - 1].length; i += 2) {
                x.coefficient(i, -all[n - 1][i]);
            }
            x.take(5, 0);
            Check.same("mirrored", Check.text(x, 5, 0), "" + -due[n - 1][n - 1]);
        }
    }

    /** "SLOTS 0 .. 7 each have a real number". */
    private static void slotsZeroToSeven() {
        RootDesk x = new RootDesk();
        for (int a = 0; a <= 7; a++) {
            x.fraction(a, a - 3, 2);
        }
        String[] due = {"-15", "-10", "-5", "0", "5", "10", "15", "20"};
        for (int a = 0; a <= 7; a++) {
            Check.is(x, a, due[a], 1, 1, 20);
        }
        for (int s = 0; s <= 7; s += 7) {
            edgeSlot(s);
        }
    }

    /** Each call takes the slot s in each of its places; 3 and 4 are others. */
    private static void edgeSlot(int s) {
        RootDesk x = new RootDesk();
        Check.polynomial(x, -2, 0, 1);
        Check.same("take", x.take(s, 1), true);
        x.copy(3, s);
        Check.is(x, 3, "14", 1, 2, 10);
        x.negate(4, s);
        Check.is(x, 4, "-15", 1, 2, 10);
        x.invert(4, s);
        Check.is(x, 4, "7", 1, 2, 10);
        Check.same("rootsIn", x.rootsIn(s, 4), 0);
        Check.same("rootsIn", x.rootsIn(4, s), 1);
        Check.same("signAt", x.signAt(s), 0);
        Check.same("compare", x.compare(s, 4), 1);
        Check.same("compare", x.compare(4, s), -1);
        Check.same("sign", x.sign(s), 1);
        x.fraction(3, 3, 1);
        Check.same("add", x.add(s, s, 3), true);
        Check.is(x, s, "44", 1, 2, 70);
        Check.same("subtract", x.subtract(4, 3, s), true);
        Check.is(x, 4, "-15", 1, 2, 130);
        x.fraction(s, 8, 1);
        Check.is(x, s, "8", 0, 1, 20);
        Check.same("multiply", x.multiply(4, s, 3), true);
        Check.same("multiply", x.multiply(s, 3, s), true);
        Check.is(x, s, "24", 0, 1, 53);
        Check.same("divide", x.divide(4, s, 3), true);
        Check.same("divide", x.divide(s, 3, s), true);
        Check.is(x, s, "125", 3, 1, 86);
        Check.same("root", x.root(3, s, 3), true);
        Check.is(x, 3, "5", 1, 3, 86);
        Check.same("root", x.root(s, 3, 2), true);
        Check.is(x, s, "70", 2, 6, 86);
        x.copy(s, 3);
        x.negate(s, s);
        x.invert(s, s);
        Check.is(x, s, "-2", 0, 3, 86);
    }

    /** "(0 at first)", "1 and 20 for a fraction (and at first)". */
    private static void slotsAtFirst() {
        RootDesk x = new RootDesk();
        for (int a = 0; a <= 7; a++) {
            Check.same("sign", x.sign(a), 0);
            Check.same("compare", x.compare(a, 7 - a), 0);
            Check.is(x, a, "0", 30, 1, 20);
            int none = a;
            Check.arithmetic("invert", () -> x.invert(0, none));
        }
        Check.same("a sum of two", x.add(3, 4, 5), true);
        Check.is(x, 3, "0", 30, 1, 53);
    }

    /** "1 and 20 for a fraction", whatever it is and whatever the slot had. */
    private static void weightAndSizeOfFraction() {
        int[][] all = {{0, 1}, {0, 1000000}, {1, 1}, {-1, 1}, {1000000, 1}, {-1000000, 1}, {1, 1000000},
            {-1, 1000000}, {1000000, 1000000}, {999999, 1000000}, {1000000, 999999}, {6, 4}};
        for (int[] f : all) {
            RootDesk x = Check.fullDesk();
            for (int a = 0; a <= 7; a++) {
                x.fraction(a, f[0], f[1]);
                Check.same("weight", x.weight(a), 1);
                Check.same("size", x.size(a), 20);
            }
        }
    }

    /** "DEGREE and 10 for a root", whatever number it is. */
    private static void weightAndSizeOfRoot() {
        // the root 1 for each DEGREE, alone, many times over, and among others
        int[][] all = {{-1, 1}, {-1000, 1000}, {1, -2, 1}, {-1, 0, 1}, {-1, 3, -3, 1}, {-1, 0, 0, 1},
            {1, -4, 6, -4, 1}, {-1, 0, 0, 0, 1}, {-1, 5, -10, 10, -5, 1}, {-1, 0, 0, 0, 0, 1},
            {1, -6, 15, -20, 15, -6, 1}, {-1, 0, 0, 0, 0, 0, 1}, {0, 0, 0, 0, 0, -1000, 1000}};
        for (int[] c : all) {
            RootDesk x = Check.fullDesk();
            Check.polynomial(x, c);
            for (int a = 0; a <= 7; a++) {
                Check.same("take", x.take(a, x.roots() - 1), true);
                Check.is(x, a, "1", 0, c.length - 1, 10);
            }
        }
        RootDesk x = new RootDesk();
        for (int d = 1; d <= 6; d++) {
            Check.polynomial(x);
            x.coefficient(d, -1000);
            Check.same("take", x.take(d, 0), true);
            Check.is(x, d, "0", 30, d, 10);
        }
        // the DEGREE at the time of the call counts
        Check.polynomial(x, -2, 0, 1);
        x.take(0, 1);
        x.coefficient(6, 1);
        Check.same("weight", x.weight(0), 2);
    }

    /** First letter: the number begun with; r adds a root, f a fraction, 2 and 3 take square and cube roots. */
    private static void build(RootDesk x, int to, String how) {
        Check.polynomial(x, -3, 1);
        x.take(7, 0);
        x.fraction(6, 5, 7);
        int[] c = new int[7];
        c[0] = -3;
        c[switch (how.charAt(0)) {
            case 'q' -> 2;
            case 'c' -> 3;
            case 'v' -> 4;
            case 'p' -> 5;
            case 'h' -> 6;
            default -> 1;
        }] = 1;
        Check.polynomial(x, c);
        x.take(to, x.roots() - 1);
        if (how.charAt(0) == 'f') {
            x.copy(to, 6);
        }
        for (int i = 1; i < how.length(); i++) {
            char step = how.charAt(i);
            boolean made = step == 'r' ? x.add(to, to, 7) : step == 'f' ? x.add(to, to, 6) : x.root(to, to, step - '0');
            Check.same(how + " at " + i, made, true);
        }
    }

    /** "Of a sum, difference, product or quotient .. w v, and v (s + 6) + w (t + v + 6)". */
    private static void weightAndSizeOfPairs() {
        String[] all = {"r", "f", "rr", "fr", "ff", "rrr", "frr", "ffr", "rrrrrr", "fff", "q", "r2", "f2", "rr2", "fr2",
            "qr", "qf", "rr2r", "c", "f3", "rr3", "fr3", "ffr3", "cr", "v", "f22", "rrr22", "p", "pr", "h",
            "f23", "hr"};
        int made = 0;
        for (String one : all) {
            for (String other : all) {
                made += pair(one, other);
            }
        }
        Check.same("how many of the pairs can be made", made, 155);
    }

    private static int pair(String one, String other) {
        RootDesk x = new RootDesk();
        build(x, 0, one);
        build(x, 1, other);
        int w = x.weight(0);
        int s = x.size(0);
        int v = x.weight(1);
        int t = x.size(1);
        int size = v * (s + 6) + w * (t + v + 6);
        boolean due = w * v <= 6 && size <= 130;
        for (int i = 0; i < Check.PAIRS.length; i++) {
            x.fraction(2, 5, 1);
            Check.same("operation " + i + " on " + one + " and " + other, Check.PAIRS[i].on(x, 2, 0, 1), due);
            Check.same("weight", x.weight(2), due ? w * v : 1);
            Check.same("size", x.size(2), due ? size : 20);
        }
        return due ? 1 : 0;
    }

    /** "of -a and 1 / a as those of a". */
    private static void weightAndSizeOfOpposites() {
        String[] all = {"r", "f", "rrrrrr", "q", "qff", "fr3f", "rrr22r", "pr", "h", "f23r", "qff3"};
        int[][] due = {{1, 10}, {1, 20}, {1, 125}, {2, 10}, {2, 130}, {3, 130}, {4, 130}, {5, 101}, {6, 10}, {6, 128},
            {6, 130}};
        for (int i = 0; i < all.length; i++) {
            RootDesk x = new RootDesk();
            build(x, 0, all[i]);
            x.negate(1, 0);
            x.invert(2, 0);
            x.invert(3, 1);
            x.copy(4, 3);
            for (int a = 0; a <= 4; a++) {
                Check.same("weight", x.weight(a), due[i][0]);
                Check.same("size", x.size(a), due[i][1]);
            }
        }
    }

    /** "of a k-th root of a: k w, and s". */
    private static void weightAndSizeOfRadicals() {
        String[] all = {"r", "f", "rrrrrr", "q", "qff", "c", "fr3f", "v", "p", "h"};
        for (String how : all) {
            RootDesk x = new RootDesk();
            build(x, 0, how);
            for (int k = 2; k <= 3; k++) {
                int weight = k * x.weight(0);
                x.fraction(1, 1, 2);
                Check.same("root " + k + " of " + how, x.root(1, 0, k), weight <= 6);
                Check.same("weight", x.weight(1), weight <= 6 ? weight : 1);
                Check.same("size", x.size(1), weight <= 6 ? x.size(0) : 20);
            }
        }
    }

    /** "which bound how it may be reckoned with, and nothing else". */
    private static void weightAndSizeBoundNothingElse() {
        RootDesk x = new RootDesk();
        build(x, 0, "qff3");
        x.copy(1, 0);
        Check.same("weight", x.weight(1), 6);
        Check.same("size", x.size(1), 130);
        Check.same("no sum", x.add(2, 0, 1), false);
        Check.same("compare", x.compare(0, 1), 0);
        x.invert(1, 1);
        x.negate(1, 1);
        Check.same("compare", x.compare(0, 1), 1);
        Check.same("sign", x.sign(1), -1);
        Check.polynomial(x, -3, 0, 0, 0, 0, 0, 1);
        Check.same("signAt", x.signAt(0), 1);
        Check.same("signAt", x.signAt(1), -1);
        Check.same("rootsIn", x.rootsIn(1, 0), 1);
        // (3^(1/2) + 10 / 7)^(1/3)
        Check.same("print", Check.text(x, 0, 20), "146754309632628849683");
        // 1 as the root of degree 6 is 1 still, but bars what the fraction 1 allows
        Check.polynomial(x, -1, 0, 0, 0, 0, 0, 1);
        x.take(2, 1);
        x.fraction(3, 1, 1);
        Check.same("compare", x.compare(2, 3), 0);
        Check.same("1 + 1 of weight 1", x.add(4, 3, 3), true);
        Check.same("1 + 1 of weight 6", x.add(4, 2, 3), false);
        Check.same("1 + 1 of weight 36", x.add(4, 2, 2), false);
        Check.same("root of weight 12", x.root(4, 2, 2), false);
        Check.is(x, 4, "2", 0, 1, 53);
        // 0 and 0, both of WEIGHT 6
        Check.polynomial(x, 0, 0, 0, 0, 0, 0, 1);
        x.take(5, 0);
        Check.same("0 + 0", x.add(4, 5, 5), false);
        Check.same("0 times 0", x.multiply(4, 5, 5), false);
        Check.same("root of 0", x.root(4, 5, 3), false);
        Check.is(x, 4, "2", 0, 1, 53);
    }

    /** "No number is made with a WEIGHT above 6": where the SIZE would do. */
    private static void weightAtMostSix() {
        String[][] made = {{"h", "r", "6", "118"}, {"r", "h", "6", "118"}, {"q", "c", "6", "86"}, {"c", "q", "6", "86"},
            {"p", "r", "5", "101"}, {"v", "r", "4", "84"}};
        String[][] not = {{"q", "v"}, {"v", "q"}, {"c", "c"}, {"q", "p"}};
        for (String[] m : made) {
            RootDesk x = new RootDesk();
            build(x, 0, m[0]);
            build(x, 1, m[1]);
            for (Check.Pair p : Check.PAIRS) {
                Check.same("weight " + m[2], p.on(x, 2, 0, 1), true);
                Check.same("weight", x.weight(2), Integer.parseInt(m[2]));
                Check.same("size", x.size(2), Integer.parseInt(m[3]));
            }
        }
        for (String[] n : not) {
            RootDesk x = new RootDesk();
            build(x, 0, n[0]);
            build(x, 1, n[1]);
            int size = x.weight(1) * 16 + x.weight(0) * (16 + x.weight(1));
            Check.same("the size would do", size <= 130, true);
            for (Check.Pair p : Check.PAIRS) {
                Check.same("a weight above 6", p.on(x, 2, 0, 1), false);
            }
            Check.is(x, 2, "0", 0, 1, 20);
        }
        radicalsAtMostSix();
    }

    private static void radicalsAtMostSix() {
        String[] all = {"q", "c", "v", "p", "h"};
        for (String how : all) {
            RootDesk x = new RootDesk();
            build(x, 0, how);
            int w = x.weight(0);
            Check.same("square root of weight " + w, x.root(1, 0, 2), w <= 3);
            Check.same("weight", x.weight(1), w <= 3 ? 2 * w : 1);
            Check.same("cube root of weight " + w, x.root(2, 0, 3), w <= 2);
            Check.same("weight", x.weight(2), w <= 2 ? 3 * w : 1);
        }
    }

    /** ".. or a SIZE above 130": 125, 128, 129 and 130 are made; 132 and 133, next above, are not; 131 cannot come. */
    private static void sizeAtMost130() {
        String[][] made = {{"rrrrr", "r", "125"}, {"rr", "fr2", "129"}, {"fr2", "rr", "129"}, {"f", "qf", "130"},
            {"qf", "f", "130"}, {"f", "fr3", "130"}, {"rrr22", "r", "130"}, {"r", "rrr22", "130"}, {"f23", "r", "128"}};
        String[][] not = {{"frr", "ff"}, {"ff", "frr"}, {"f", "rr2r"}, {"rr2r", "f"}, {"r", "ffr3"}, {"q", "rr3"},
            {"rr3", "q"}, {"f2", "rr2"}, {"p", "f"}, {"h", "f"}, {"h", "rr"}};
        for (String[] m : made) {
            RootDesk x = new RootDesk();
            build(x, 0, m[0]);
            build(x, 1, m[1]);
            for (Check.Pair p : Check.PAIRS) {
                Check.same(m[0] + " and " + m[1], p.on(x, 2, 0, 1), true);
                Check.same("size", x.size(2), Integer.parseInt(m[2]));
            }
        }
        for (String[] n : not) {
            RootDesk x = new RootDesk();
            build(x, 0, n[0]);
            build(x, 1, n[1]);
            Check.same("the weight would do", x.weight(0) * x.weight(1) <= 6, true);
            for (Check.Pair p : Check.PAIRS) {
                Check.same(n[0] + " and " + n[1], p.on(x, 2, 0, 1), false);
            }
            Check.is(x, 2, "0", 0, 1, 20);
        }
    }
}
