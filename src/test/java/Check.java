/** What the tests share: each wrong answer is told, and makes the test end with 1. */
final class Check {
    /** The four calls that make one number out of two. */
    static final Pair[] PAIRS = {RootDesk::add, RootDesk::subtract, RootDesk::multiply, RootDesk::divide};

    private static int wrong = 0;

    private Check() {
    }

    interface Call {
        void make();
    }

    interface Pair {
        boolean on(RootDesk x, int to, int a, int b);
    }

    static void same(String what, long got, long due) {
        if (got != due) {
            fail(what + " answered " + got + ", due is " + due);
        }
    }

    static void same(String what, boolean got, boolean due) {
        same(what, got ? 1 : 0, due ? 1 : 0);
    }

    static void same(String what, String got, String due) {
        if (!got.equals(due)) {
            fail(what + " answered " + got + ", due is " + due);
        }
    }

    static void illegal(String what, Call call) {
        same(what, outcome(call), "IllegalArgument");
    }

    static void arithmetic(String what, Call call) {
        same(what, outcome(call), "Arithmetic");
    }

    /** How a call ends: which exception it throws, if any. */
    static String outcome(Call call) {
        try {
            call.make();
            return "no exception";
        } catch (IllegalArgumentException e) {
            return e.getClass() == IllegalArgumentException.class ? "IllegalArgument" : e.toString();
        } catch (ArithmeticException e) {
            return "Arithmetic";
        } catch (RuntimeException e) {
            return e.toString();
        }
    }

    static void fail(String what) {
        wrong++;
        System.out.println(what);
    }

    static void end() {
        if (wrong != 0) {
            System.out.println(wrong + " answers are wrong");
            System.exit(1);
        }
        System.out.println("all answers are right");
    }

    /** Sets all coefficients, those not told to 0. */
    static void polynomial(RootDesk x, int... c) {
        for (int i = 0; i <= 6; i++) {
            x.coefficient(i, i < c.length ? c[i] : 0);
        }
    }

    /** Slot to gets root i of the polynomial with these coefficients. */
    static void root(RootDesk x, int to, int i, int... c) {
        polynomial(x, c);
        same("take", x.take(to, i), true);
    }

    /** The number 0, come by in many ways, in the slots 1 to 7; slot 0 is free. */
    static RootDesk zeros() {
        RootDesk x = new RootDesk();
        root(x, 0, 1, -2, 0, 1);
        x.subtract(1, 0, 0);
        x.multiply(2, 0, 7);
        x.divide(3, 7, 0);
        x.root(4, 7, 3);
        x.negate(5, 7);
        root(x, 6, 2, 0, -4, 0, 5, 0, -1);
        x.fraction(7, 0, 1000000);
        return x;
    }

    /**
     * Slots: 0, -7 / 3, the square root of 2, minus the cube root of 3, the sixth root of 2, the sum of the
     * square roots of 2 and 3, -10^-24, and 0 with WEIGHT 4. THE POLYNOMIAL is x^3 - 3; printed is -23334.
     */
    static RootDesk fullDesk() {
        RootDesk x = new RootDesk();
        polynomial(x, -2, 0, 1);
        x.take(2, 1);
        polynomial(x, -3, 0, 1);
        x.take(3, 1);
        x.add(5, 2, 3);
        x.subtract(7, 2, 2);
        polynomial(x, -2, 0, 0, 0, 0, 0, 1);
        x.take(4, 1);
        polynomial(x, -3, 0, 0, 1);
        tiny(x, 6, 3);
        x.negate(6, 6);
        x.take(3, 0);
        x.negate(3, 3);
        x.fraction(1, -7, 3);
        same("print", x.print(1, 4), 6);
        return x;
    }

    /** The number of slot a: what print writes of it, and its WEIGHT and SIZE. */
    static void is(RootDesk x, int a, String text, int k, int weight, int size) {
        same("print", text(x, a, k), text);
        same("weight of " + text, x.weight(a), weight);
        same("size of " + text, x.size(a), size);
    }

    /** Slot to gets the product of all p[i] / q[i]. */
    static void product(RootDesk x, int to, int spare, int[] p, int[] q) {
        x.fraction(to, p[0], q[0]);
        for (int i = 1; i < p.length; i++) {
            x.fraction(spare, p[i], q[i]);
            same("multiply", x.multiply(to, to, spare), true);
        }
    }

    /** Two fractions of SIZE 119 beside the square root of 10, above and below it by less than 10^-46. */
    static void besideRootOfTen(RootDesk x, int below, int above, int spare) {
        int[] p = {484921, 919489, 669161, 825011};
        int[] q = {956657, 832322, 979665, 99789};
        product(x, above, spare, p, q);
        q[3] *= 10;
        product(x, below, spare, q, p);
    }

    /** 10 to the power of -24, of SIZE 119. */
    static void tiny(RootDesk x, int to, int spare) {
        int[] p = {1, 1, 1, 1};
        int[] q = {1000000, 1000000, 1000000, 1000000};
        product(x, to, spare, p, q);
    }

    /** What print writes, read back character by character. */
    static String text(RootDesk x, int a, int k) {
        return text(x, x.print(a, k));
    }

    static String text(RootDesk x, int length) {
        StringBuilder s = new StringBuilder();
        for (int i = 0; i < length; i++) {
            s.append((char) x.character(i));
        }
        same("character past the end", x.character(length), RootDesk.NONE);
        return s.toString();
    }

    /** Everything that can be seen of a desk, to tell whether a call changed it. */
    static String state(RootDesk x, int printed) {
        StringBuilder s = new StringBuilder(text(x, printed));
        s.append(" degree ").append(x.degree()).append(" roots ").append(x.roots());
        for (int i = 0; i <= 6; i++) {
            int v = x.coefficient(i, 0);
            x.coefficient(i, v);
            s.append(' ').append(v);
        }
        for (int a = 0; a < 8; a++) {
            s.append(" | ").append(x.weight(a)).append(' ').append(x.size(a)).append(' ');
            s.append(x.sign(a)).append(' ').append(x.signAt(a));
            for (int b = 0; b < 8; b++) {
                s.append(' ').append(x.compare(a, b));
            }
        }
        return s.toString();
    }

    /** Likewise with each slot's number to 30 places; what was printed is lost. */
    static String wholeState(RootDesk x, int printed) {
        StringBuilder s = new StringBuilder(state(x, printed));
        for (int a = 0; a < 8; a++) {
            s.append(" | ").append(text(x, a, 30)).append(' ').append(x.rootsIn(a, 0)).append(x.rootsIn(0, a));
        }
        return s.toString();
    }
}
