/** What the tests share: each wrong answer is told, and makes the test end with 1. */
final class Check {
    private static int wrong = 0;

    private Check() {
    }

    interface Call {
        void make();
    }

    static void same(String what, long got, long due) {
        if (got != due) {
            fail(what + " answered " + got + ", due is " + due);
        }
    }

    static void same(String what, boolean got, boolean due) {
        same(what, got ? 1 : 0, due ? 1 : 0);
    }

    static void same(String what, String got, String due) {
        if (!got.equals(due)) {
            fail(what + " answered " + got + ", due is " + due);
        }
    }

    static void illegal(String what, Call call) {
        same(what, outcome(call), "IllegalArgument");
    }

    static void arithmetic(String what, Call call) {
        same(what, outcome(call), "Arithmetic");
    }

    private static String outcome(Call call) {
        try {
            call.make();
            return "no exception";
        } catch (IllegalArgumentException e) {
            return e.getClass() == IllegalArgumentException.class ? "IllegalArgument" : e.toString();
        } catch (ArithmeticException e) {
            return "Arithmetic";
        } catch (RuntimeException e) {
            return e.toString();
        }
    }

    static void fail(String what) {
        wrong++;
        System.out.println(what);
    }

    static void end() {
        if (wrong != 0) {
            System.out.println(wrong + " answers are wrong");
            System.exit(1);
        }
        System.out.println("all answers are right");
    }

    /** Sets all coefficients, those not told to 0. */
    static void polynomial(RootDesk x, int... c) {
        for (int i = 0; i <= 6; i++) {
            x.coefficient(i, i < c.length ? c[i] : 0);
        }
    }

    /** What print writes, read back character by character. */
    static String text(RootDesk x, int a, int k) {
        return text(x, x.print(a, k));
    }

    static String text(RootDesk x, int length) {
        StringBuilder s = new StringBuilder();
        for (int i = 0; i < length; i++) {
            s.append((char) x.character(i));
        }
        same("character past the end", x.character(length), RootDesk.NONE);
        return s.toString();
    }

    /** Everything that can be seen of a desk, to tell whether a call changed it. */
    static String state(RootDesk x, int printed) {
        StringBuilder s = new StringBuilder(text(x, printed));
        s.append(" degree ").append(x.degree()).append(" roots ").append(x.roots());
        for (int i = 0; i <= 6; i++) {
            int v = x.coefficient(i, 0);
            x.coefficient(i, v);
            s.append(' ').append(v);
        }
        for (int a = 0; a < 8; a++) {
            s.append(" | ").append(x.weight(a)).append(' ').append(x.size(a)).append(' ');
            s.append(x.sign(a)).append(' ').append(x.signAt(a));
            for (int b = 0; b < 8; b++) {
                s.append(' ').append(x.compare(a, b));
            }
        }
        return s.toString();
    }
}
