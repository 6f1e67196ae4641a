/** The sentences of promises 17 to 20, one by one: at each boundary, and on both sides of it. */
public final class ReadingEdgesTest {
    private static final int MIN = Integer.MIN_VALUE;
    private static final int MAX = Integer.MAX_VALUE;

    private ReadingEdgesTest() {
    }

    public static void main(String[] args) {
        promise17LessSameGreater();
        promise17NextToOneAnother();
        promise17AlikeModuloPrimes();
        promise17PrimeInFront();
        promise18Sign();
        promise19Places();
        promise19RoundedDown();
        promise19Minus();
        promise19LongestAndShortest();
        promise19GreatestSize();
        promise20Character();
        promise20WhatWasPrintedLast();
        Check.end();
    }

    /** "less than that of b (-1), the same (0), greater (1)". */
    private static void promise17LessSameGreater() {
        RootDesk x = new RootDesk();
        for (int a = 0; a < 8; a++) {
            x.fraction(a, a - 4, 3);
        }
        for (int a = 0; a < 8; a++) {
            for (int b = 0; b < 8; b++) {
                Check.same("fractions", x.compare(a, b), Integer.compare(a, b));
            }
        }
        Check.polynomial(x, -36, 0, 49, 0, -14, 0, 1);
        for (int a = 0; a < 6; a++) {
            x.take(a, a);
        }
        for (int a = 0; a < 6; a++) {
            for (int b = 0; b < 6; b++) {
                Check.same("roots", x.compare(a, b), Integer.compare(a, b));
            }
        }
        int[] wrong = {MIN, -1, 8, MAX};
        for (int w : wrong) {
            Check.illegal("a", () -> x.compare(w, 0));
            Check.illegal("b", () -> x.compare(7, w));
            Check.illegal("both the same", () -> x.compare(w, w));
        }
    }

    /** Numbers that differ by less than 10^-46, and the one between them: as they are, inverted, and their roots. */
    private static void promise17NextToOneAnother() {
        RootDesk x = new RootDesk();
        Check.besideRootOfTen(x, 0, 2, 3);
        x.fraction(1, 10, 1);
        x.root(1, 1, 2);
        inOrder(x, 1);
        for (int i = 0; i < 3; i++) {
            x.invert(i, i);
        }
        inOrder(x, -1);
        for (int i = 0; i < 3; i++) {
            x.negate(i, i);
        }
        inOrder(x, 1);
        for (int i = 0; i < 3; i++) {
            x.root(i, i, 3);
        }
        inOrder(x, 1);
        Check.besideRootOfTen(x, 0, 2, 3);
        Check.root(x, 1, 1, -10, 0, 1);
        for (int i = 0; i < 3; i++) {
            x.root(i, i, 2);
        }
        inOrder(x, 1);
        // the fourth root of 10 by another way is the one between, too
        Check.root(x, 3, 1, -10, 0, 0, 0, 1);
        Check.same("the same", x.compare(1, 3), 0);
        x.copy(1, 3);
        inOrder(x, 1);
    }

    /**
     * Two fractions whose difference, over both denominators, is the product of the two greatest primes below 2^30:
     * with these primes, which the program takes first, they look the same, and so do their roots.
     */
    private static void promise17AlikeModuloPrimes() {
        for (int k = 1; k <= 6; k++) {
            RootDesk x = new RootDesk();
            Check.product(x, 0, 3, new int[] {389904, 773387}, new int[] {956273, 909005});
            Check.product(x, 1, 3, new int[] {386803, 841837}, new int[] {943653, 994712});
            for (int a = 0; a < 2; a++) {
                Check.same("square root", k % 2 != 0 || x.root(a, a, 2), true);
                Check.same("cube root", k % 3 != 0 || x.root(a, a, 3), true);
            }
            Check.same("less", x.compare(0, 1), -1);
            Check.same("greater", x.compare(1, 0), 1);
            x.invert(0, 0);
            x.invert(1, 1);
            Check.same("inverted", x.compare(0, 1), 1);
            x.negate(0, 0);
            x.negate(1, 1);
            Check.same("negated", x.compare(0, 1), -1);
        }
    }

    /** The greatest prime below 2^30 as a denominator: it is of no use there, and the next ones must do. */
    private static void promise17PrimeInFront() {
        RootDesk x = new RootDesk();
        x.fraction(0, 309984, 999983);
        x.fraction(1, -308909, 999979);
        x.add(0, 0, 1);
        x.invert(0, 0);
        Check.is(x, 0, "93128721504663352540896", 20, 1, 53);
        Check.same("multiply", x.multiply(1, 0, 0), true);
        Check.same("root", x.root(1, 1, 2), true);
        Check.same("the same", x.compare(0, 1), 0);
        Check.same("the same", x.compare(1, 0), 0);
        x.fraction(2, 1, 1000000);
        Check.same("add", x.add(2, 2, 0), true);
        Check.same("less", x.compare(1, 2), -1);
        Check.same("greater", x.compare(2, 1), 1);
    }

    private static void inOrder(RootDesk x, int due) {
        Check.same("0 and 1", x.compare(0, 1), -due);
        Check.same("1 and 0", x.compare(1, 0), due);
        Check.same("1 and 2", x.compare(1, 2), -due);
        Check.same("2 and 1", x.compare(2, 1), due);
        Check.same("0 and 2", x.compare(0, 2), -due);
        Check.same("2 and 0", x.compare(2, 0), due);
    }

    /** "The sign of the number of slot a.": at 0, however it came, and next to it. */
    private static void promise18Sign() {
        RootDesk x = Check.zeros();
        Check.same("the square root of 2", x.sign(0), 1);
        for (int a = 1; a < 8; a++) {
            Check.same("0", x.sign(a), 0);
        }
        Check.tiny(x, 1, 2);
        Check.same("10^-24", x.sign(1), 1);
        x.negate(1, 1);
        Check.same("-10^-24", x.sign(1), -1);
        Check.polynomial(x, -1, 0, 0, 0, 0, 1000, 1000);
        x.take(1, 0);
        x.take(2, 1);
        Check.same("the least root", x.sign(1), -1);
        Check.same("the greatest root", x.sign(2), 1);
        int[] wrong = {MIN, -1, 8, MAX};
        for (int w : wrong) {
            Check.illegal("sign", () -> x.sign(w));
        }
    }

    /** "times 10 to the power of k"; "IllegalArgument: also if k is not 0 .. 30". */
    private static void promise19Places() {
        RootDesk x = new RootDesk();
        Check.root(x, 0, 1, -2, 0, 1);
        x.fraction(1, 1, 7);
        String text = "1414213562373095048801688724209";
        String seventh = "142857142857142857142857142857";
        for (int k = 0; k <= 30; k++) {
            Check.same("how many", x.print(0, k), k + 1);
            Check.same("root, k = " + k, Check.text(x, k + 1), text.substring(0, k + 1));
            Check.same("1 / 7, k = " + k, Check.text(x, 1, k), k == 0 ? "0" : seventh.substring(0, k));
        }
        int n = x.print(0, 30);
        int[] wrong = {MIN, -31, -30, -1, 31, 32, 256, MAX};
        for (int k : wrong) {
            Check.illegal("k = " + k, () -> x.print(0, k));
            Check.illegal("k = " + k + ", and no such slot", () -> x.print(8, k));
        }
        Check.same("what was printed before", Check.text(x, n), text);
    }

    /** "rounded down": numbers next to whole ones, on both sides of them and of 0. */
    private static void promise19RoundedDown() {
        int[] powers = {1, 2, 3, 6};
        String[] less = {"999999999999999999000000000000", "999999999999999999499999999999",
            "999999999999999999666666666666", "999999999999999999833333333333"};
        String[] more = {"1000000000000000001000000000000", "1000000000000000000499999999999",
            "1000000000000000000333333333333", "1000000000000000000166666666666"};
        for (int i = 0; i < powers.length; i++) {
            RootDesk x = nextToOne(powers[i]);
            Check.same("less", Check.text(x, 0, 30), less[i]);
            Check.same("less, k = 0", Check.text(x, 0, 0), "0");
            Check.same("less, k = 17", Check.text(x, 0, 17), "99999999999999999");
            Check.same("more", Check.text(x, 1, 30), more[i]);
            Check.same("more, k = 0", Check.text(x, 1, 0), "1");
            Check.same("more, k = 17", Check.text(x, 1, 17), "100000000000000000");
            x.negate(0, 0);
            x.negate(1, 1);
            Check.same("-less, k = 0", Check.text(x, 0, 0), "-1");
            Check.same("-less, k = 17", Check.text(x, 0, 17), "-100000000000000000");
            Check.same("-more, k = 0", Check.text(x, 1, 0), "-2");
            Check.same("-more, k = 17", Check.text(x, 1, 17), "-100000000000000001");
        }
        // just so: 1 itself as a root, a product, a square root and a fraction
        RootDesk x = new RootDesk();
        Check.root(x, 0, 1, 2, -2, -1, 1);
        Check.root(x, 1, 0, -1, 0, 0, 0, 0, 1);
        x.fraction(2, 999983, 999979);
        x.invert(3, 2);
        x.multiply(2, 2, 3);
        x.root(3, 2, 2);
        for (int a = 0; a < 4; a++) {
            Check.same("1", Check.text(x, a, 0), "1");
            Check.same("1", Check.text(x, a, 30), "1000000000000000000000000000000");
            x.negate(a, a);
            Check.same("-1", Check.text(x, a, 0), "-1");
            Check.same("-1", Check.text(x, a, 30), "-1000000000000000000000000000000");
        }
    }

    /** Roots of this power of 1 - 10^-18 and 1 + 10^-18. */
    private static RootDesk nextToOne(int power) {
        RootDesk x = new RootDesk();
        int[] p = {1, 1, 1};
        int[] q = {1000000, 1000000, 1000000};
        Check.product(x, 2, 3, p, q);
        x.fraction(3, 1, 1);
        x.subtract(0, 3, 2);
        x.add(1, 2, 3);
        for (int a = 0; a < 2; a++) {
            if (power % 2 == 0) {
                Check.same("square root", x.root(a, a, 2), true);
            }
            if (power % 3 == 0) {
                Check.same("cube root", x.root(a, a, 3), true);
            }
            Check.same("weight", x.weight(a), power);
            Check.same("size", x.size(a), 119);
        }
        return x;
    }

    /** "with - if that is below 0": that is the number rounded down, so -0 never comes. */
    private static void promise19Minus() {
        RootDesk x = Check.zeros();
        for (int a = 1; a < 8; a++) {
            Check.same("0, k = 0", Check.text(x, a, 0), "0");
            Check.same("0, k = 30", Check.text(x, a, 30), "0");
        }
        Check.tiny(x, 0, 1);
        x.negate(1, 0);
        for (int k = 0; k <= 23; k++) {
            Check.same("10^-24", Check.text(x, 0, k), "0");
            Check.same("-10^-24", Check.text(x, 1, k), "-1");
        }
        Check.same("10^-24", Check.text(x, 0, 24), "1");
        Check.same("-10^-24", Check.text(x, 1, 24), "-1");
        Check.same("10^-24", Check.text(x, 0, 25), "10");
        Check.same("-10^-24", Check.text(x, 1, 25), "-10");
        // the same for a number that is no fraction
        Check.root(x, 2, 1, -1, 0, 500);
        x.negate(3, 2);
        Check.same("0.0447", Check.text(x, 2, 1), "0");
        Check.same("-0.0447", Check.text(x, 3, 1), "-1");
        Check.same("0.0447", Check.text(x, 2, 2), "4");
        Check.same("-0.0447", Check.text(x, 3, 2), "-5");
    }

    /** "how many characters": 25 digits before the point for 10^24, 30 behind it at most, and the minus. */
    private static void promise19LongestAndShortest() {
        RootDesk x = new RootDesk();
        Check.tiny(x, 0, 1);
        x.invert(0, 0);
        Check.same("how many", x.print(0, 30), 55);
        Check.same("character 0", x.character(0), '1');
        for (int i = 1; i < 55; i++) {
            Check.same("character " + i, x.character(i), '0');
        }
        Check.same("character 55", x.character(55), RootDesk.NONE);
        x.negate(0, 0);
        Check.same("how many", x.print(0, 30), 56);
        Check.same("character 0", x.character(0), '-');
        Check.same("character 1", x.character(1), '1');
        Check.same("character 55", x.character(55), '0');
        Check.same("character 56", x.character(56), RootDesk.NONE);
        Check.same("how many", x.print(7, 30), 1);
        Check.same("character 0", x.character(0), '0');
        Check.same("character 1", x.character(1), RootDesk.NONE);
        // each number of digits, where one nine more makes one digit more
        for (int k = 0; k <= 30; k++) {
            x.fraction(1, 9, 1);
            Check.same("9", x.print(1, k), k + 1);
            x.fraction(1, 10, 1);
            Check.same("10", x.print(1, k), k + 2);
            x.fraction(1, -1, 1000000);
            Check.same("-0.000001", x.print(1, k), Math.max(2, k - 4));
        }
    }

    /** A number of SIZE 130 just above 0: a root less two fractions that hardly differ from it; then 1 by it. */
    private static void promise19GreatestSize() {
        RootDesk x = new RootDesk();
        Check.root(x, 0, 1, -686, 991, 648);
        x.fraction(1, 212053, 921899);
        x.fraction(2, 266404, 927419);
        Check.same("subtract", x.subtract(3, 0, 1), true);
        Check.same("subtract", x.subtract(3, 3, 2), true);
        Check.is(x, 3, "0", 27, 2, 130);
        Check.is(x, 3, "8", 28, 2, 130);
        Check.is(x, 3, "823", 30, 2, 130);
        Check.same("sign", x.sign(3), 1);
        x.add(4, 1, 2);
        Check.same("compare", x.compare(0, 4), 1);
        Check.same("signAt", x.signAt(4), -1);
        Check.same("rootsIn", x.rootsIn(4, 0), 1);
        x.invert(5, 3);
        Check.is(x, 5, "1214474473251425067622417279390036527089596984669640246174", 30, 2, 130);
        x.negate(5, 5);
        Check.is(x, 5, "-1214474473251425067622417279390036527089596984669640246175", 30, 2, 130);
        Check.arithmetic("square root", () -> x.root(6, 5, 2));
        Check.same("square root", x.root(6, 3, 2), true);
        Check.is(x, 6, "28694971949810534", 30, 4, 130);
        Check.same("cube root", x.root(6, 3, 3), true);
        Check.is(x, 6, "937282560373843127031", 30, 6, 130);
    }

    /** "Character i of what was printed last; NONE if there is none such." */
    private static void promise20Character() {
        RootDesk x = new RootDesk();
        x.fraction(0, -123457, 10);
        Check.same("print", x.print(0, 1), 7);
        String due = "-123457";
        int[] none = {MIN, MIN + 1, -7, -1, 7, 8, 159, 160, 1 << 16, MAX};
        for (int i : none) {
            Check.same("character " + i, x.character(i), RootDesk.NONE);
        }
        for (int i = 0; i < 7; i++) {
            Check.same("character " + i, x.character(i), due.charAt(i));
        }
    }

    /** "what was printed last": other calls, refused ones too, leave it; the next print leaves nothing of it. */
    private static void promise20WhatWasPrintedLast() {
        RootDesk x = new RootDesk();
        x.fraction(0, -22, 7);
        int n = x.print(0, 5);
        x.fraction(0, 1, 3);
        x.take(0, 0);
        x.coefficient(1, 1);
        x.add(0, 0, 0);
        x.compare(0, 1);
        Check.illegal("print", () -> x.print(-1, 5));
        Check.illegal("print", () -> x.print(0, -1));
        Check.same("as before", Check.text(x, n), "-314286");
        Check.same("print", x.print(0, 1), 1);
        Check.same("the new one", x.character(0), '6');
        Check.same("nothing of the old one", x.character(1), RootDesk.NONE);
        Check.same("nothing of the old one", x.character(6), RootDesk.NONE);
    }
}
