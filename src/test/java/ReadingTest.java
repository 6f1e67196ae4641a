/** Promises 17 to 20: comparing numbers, and writing them down. */
public final class ReadingTest {
    private ReadingTest() {
    }

    public static void main(String[] args) {
        promise17Compare();
        promise17SameNumberByAnotherWay();
        promise17CloseNumbers();
        promise18Sign();
        promise19Print();
        promise19RoundsDown();
        promise19WrongInputs();
        promise20Character();
        wrongSlots();
        Check.end();
    }

    private static void ranks(String what, RootDesk x, int a, int b, int due) {
        Check.same(what, x.compare(a, b), due);
        Check.same(what + ", the other way", x.compare(b, a), -due);
    }

    private static void promise17Compare() {
        RootDesk x = new RootDesk();
        Check.root(x, 0, 0, -2, 0, 1);
        Check.root(x, 1, 1, -2, 0, 1);
        x.fraction(2, 7, 5);
        x.fraction(3, -7, 5);
        ranks("two roots", x, 0, 1, -1);
        ranks("7 / 5", x, 2, 1, -1);
        ranks("-7 / 5", x, 3, 0, 1);
        ranks("0", x, 7, 1, -1);
        ranks("0", x, 7, 0, 1);
        ranks("0 and 0", x, 6, 7, 0);
        for (int a = 0; a < 8; a++) {
            Check.same("with itself", x.compare(a, a), 0);
        }
    }

    private static void promise17SameNumberByAnotherWay() {
        RootDesk x = new RootDesk();
        Check.root(x, 0, 1, -2, 0, 1);
        Check.root(x, 1, 1, -3, 0, 1);
        x.multiply(2, 0, 1);
        Check.root(x, 3, 1, -6, 0, 1);
        ranks("square root of 6", x, 2, 3, 0);
        x.add(2, 0, 1);
        Check.root(x, 3, 3, 1, 0, -10, 0, 1);
        ranks("square roots of 2 and 3", x, 2, 3, 0);
        Check.root(x, 4, 2, 1, 0, -10, 0, 1);
        ranks("another root", x, 2, 4, 1);
        x.multiply(5, 0, 0);
        x.fraction(6, 2, 1);
        ranks("2", x, 5, 6, 0);
        x.copy(5, 0);
        ranks("a copy", x, 5, 0, 0);
        // 1 / 3 as a root among others, as a fraction, and as a cube root
        Check.root(x, 1, 1, 6, -18, -3, 9);
        x.fraction(2, 1, 3);
        x.fraction(3, 1, 27);
        x.root(3, 3, 3);
        ranks("1 / 3", x, 1, 2, 0);
        ranks("1 / 3", x, 2, 3, 0);
        ranks("1 / 3", x, 3, 1, 0);
        Check.root(x, 4, 0, -1, 0, 0, 0, 0, 243);
        ranks("1 / 3", x, 3, 4, 0);
        Check.root(x, 4, 0, -1, 3);
        ranks("1 / 3", x, 4, 3, 0);
        ranks("1 / 3", x, 4, 2, 0);
        // the golden ratio alone, with a third and 7, with the square roots of 2
        Check.root(x, 5, 1, -1, -1, 1);
        Check.root(x, 6, 2, -7, 15, 26, -25, 3);
        ranks("the golden ratio", x, 5, 6, 0);
        Check.root(x, 7, 3, 6, 8, -5, -4, -1, 0, 1);
        ranks("the golden ratio", x, 6, 7, 0);
        ranks("the golden ratio", x, 7, 5, 0);
        Check.root(x, 7, 2, 6, 8, -5, -4, -1, 0, 1);
        ranks("the square root of 2", x, 6, 7, 1);
        ranks("the square root of 2", x, 0, 7, 0);
    }

    private static void promise17CloseNumbers() {
        RootDesk x = new RootDesk();
        Check.root(x, 0, 1, -2, 0, 1);
        x.fraction(1, 665857, 470832);
        ranks("above by 0.000000000002", x, 1, 0, 1);
        x.fraction(1, 275807, 195025);
        ranks("below by 0.000000000009", x, 1, 0, -1);
        // x^6 - 2 (22 x - 1)^2 and the middle of its two close roots
        Check.root(x, 2, 1, -2, 88, -968, 0, 0, 0, 1);
        Check.root(x, 3, 2, -2, 88, -968, 0, 0, 0, 1);
        x.fraction(4, 1, 22);
        ranks("close roots", x, 2, 3, -1);
        ranks("the middle", x, 2, 4, -1);
        ranks("the middle", x, 3, 4, 1);
        // close numbers whose polynomials share another root: (x^2 - 2) (x - 5) and (70 x - 99) (x - 5)
        Check.root(x, 0, 1, 10, -2, -5, 1);
        Check.root(x, 1, 0, 495, -449, 70);
        ranks("99 / 70", x, 1, 0, 1);
        Check.root(x, 2, 2, 10, -2, -5, 1);
        Check.root(x, 3, 1, 495, -449, 70);
        ranks("5", x, 2, 3, 0);
        // square roots of 10 and 11 against those of 5 and 18: 6.4789 and 6.4787
        x.fraction(0, 10, 1);
        x.root(0, 0, 2);
        x.fraction(1, 11, 1);
        x.root(1, 1, 2);
        x.add(2, 0, 1);
        x.fraction(0, 5, 1);
        x.root(0, 0, 2);
        x.fraction(1, 18, 1);
        x.root(1, 1, 2);
        x.add(3, 0, 1);
        ranks("sums of square roots", x, 2, 3, 1);
    }

    private static void promise18Sign() {
        RootDesk x = new RootDesk();
        Check.same("0", x.sign(0), 0);
        x.fraction(0, 1, 1000000);
        Check.same("above", x.sign(0), 1);
        x.fraction(0, -1, 1000000);
        Check.same("below", x.sign(0), -1);
        Check.root(x, 1, 0, -1, 0, 1000);
        Check.root(x, 2, 1, -1, 0, 1000);
        Check.same("below", x.sign(1), -1);
        Check.same("above", x.sign(2), 1);
        x.add(3, 1, 2);
        Check.same("their sum", x.sign(3), 0);
        x.multiply(3, 1, 2);
        Check.same("their product", x.sign(3), -1);
        Check.root(x, 4, 1, 0, -2, 0, 1);
        Check.same("the root 0", x.sign(4), 0);
        Check.root(x, 4, 0, 0, -2, 0, 1);
        Check.same("the root before", x.sign(4), -1);
        Check.root(x, 4, 2, 0, -2, 0, 1);
        Check.same("the root behind", x.sign(4), 1);
    }

    private static void promise19Print() {
        RootDesk x = new RootDesk();
        Check.root(x, 0, 1, -2, 0, 1);
        Check.same("k = 0", Check.text(x, 0, 0), "1");
        Check.same("k = 1", Check.text(x, 0, 1), "14");
        Check.same("k = 9", Check.text(x, 0, 9), "1414213562");
        Check.same("k = 10", Check.text(x, 0, 10), "14142135623");
        Check.same("k = 30", Check.text(x, 0, 30), "1414213562373095048801688724209");
        Check.same("k = 17", Check.text(x, 0, 17), "141421356237309504");
        Check.same("how many", x.print(0, 30), 31);
        Check.same("0", Check.text(x, 7, 30), "0");
        x.fraction(1, 1, 1000000);
        Check.same("k = 5", Check.text(x, 1, 5), "0");
        Check.same("k = 6", Check.text(x, 1, 6), "1");
        Check.same("k = 30", Check.text(x, 1, 30), "1000000000000000000000000");
        x.fraction(1, 1000000, 1);
        Check.same("k = 3", Check.text(x, 1, 3), "1000000000");
        Check.same("k = 30", Check.text(x, 1, 30), "1000000000000000000000000000000000000");
        x.fraction(1, 1, 7);
        Check.same("k = 30", Check.text(x, 1, 30), "142857142857142857142857142857");
    }

    private static void promise19RoundsDown() {
        RootDesk x = new RootDesk();
        Check.root(x, 0, 0, -2, 0, 1);
        Check.same("below 0", Check.text(x, 0, 0), "-2");
        Check.same("below 0", Check.text(x, 0, 9), "-1414213563");
        x.fraction(1, -1, 1000000);
        Check.same("just below 0", Check.text(x, 1, 0), "-1");
        Check.same("just below 0", Check.text(x, 1, 5), "-1");
        Check.same("just so", Check.text(x, 1, 6), "-1");
        Check.same("just so", Check.text(x, 1, 7), "-10");
        x.fraction(1, 999999, 1000000);
        Check.same("just below 1", Check.text(x, 1, 0), "0");
        Check.same("just below 1", Check.text(x, 1, 5), "99999");
        // whole and decimal numbers that come as roots: 3 and -3 / 10 among roots that are not
        Check.root(x, 2, 2, -6, 2, 3, -1);
        Check.same("3", Check.text(x, 2, 0), "3");
        Check.same("3", Check.text(x, 2, 30), "3000000000000000000000000000000");
        Check.root(x, 2, 1, -6, -20, 3, 10);
        Check.same("-3 / 10", Check.text(x, 2, 0), "-1");
        Check.same("-3 / 10", Check.text(x, 2, 1), "-3");
        Check.same("-3 / 10", Check.text(x, 2, 2), "-30");
        x.multiply(3, 0, 0);
        Check.same("2", Check.text(x, 3, 0), "2");
        x.negate(3, 3);
        Check.same("-2", Check.text(x, 3, 0), "-2");
        Check.same("-2", Check.text(x, 3, 30), "-2000000000000000000000000000000");
        // hardly above and below a whole number: the square root of 999999 / 1000000 and its inverse
        x.fraction(4, 999999, 1000000);
        x.root(4, 4, 2);
        Check.same("below 1", Check.text(x, 4, 6), "999999");
        Check.same("below 1", Check.text(x, 4, 7), "9999994");
        x.invert(4, 4);
        Check.same("above 1", Check.text(x, 4, 6), "1000000");
    }

    private static void promise19WrongInputs() {
        RootDesk x = new RootDesk();
        x.fraction(0, 22, 7);
        int n = x.print(0, 3);
        int[] wrong = {-1, 31, Integer.MIN_VALUE, Integer.MAX_VALUE};
        for (int k : wrong) {
            Check.illegal("k = " + k, () -> x.print(0, k));
            Check.illegal("slot and k", () -> x.print(8, k));
        }
        Check.same("what was printed before", Check.text(x, n), "3142");
    }

    private static void promise20Character() {
        RootDesk x = new RootDesk();
        Check.same("nothing printed", x.character(0), RootDesk.NONE);
        Check.same("nothing printed", x.character(-1), RootDesk.NONE);
        x.fraction(0, -22, 7);
        Check.same("print", x.print(0, 3), 5);
        String due = "-3143";
        for (int i = 0; i < 5; i++) {
            Check.same("character " + i, x.character(i), due.charAt(i));
        }
        Check.same("character 5", x.character(5), RootDesk.NONE);
        Check.same("character -1", x.character(-1), RootDesk.NONE);
        Check.same("least", x.character(Integer.MIN_VALUE), RootDesk.NONE);
        Check.same("greatest", x.character(Integer.MAX_VALUE), RootDesk.NONE);
        x.fraction(0, 5, 1);
        Check.same("still the same", x.character(0), '-');
        Check.same("print", x.print(0, 0), 1);
        Check.same("character 0", x.character(0), '5');
        Check.same("nothing left of the longer text", x.character(1), RootDesk.NONE);
    }

    private static void wrongSlots() {
        RootDesk x = new RootDesk();
        int[] wrong = {-1, 8, Integer.MIN_VALUE, Integer.MAX_VALUE};
        for (int w : wrong) {
            Check.illegal("compare a", () -> x.compare(w, 0));
            Check.illegal("compare b", () -> x.compare(0, w));
            Check.illegal("compare both", () -> x.compare(w, w));
            Check.illegal("sign", () -> x.sign(w));
            Check.illegal("print", () -> x.print(w, 0));
        }
    }
}
