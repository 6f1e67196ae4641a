/** The sentences of the document's "Terms" on calls that throw or are refused, one by one. */
public final class RefusalsTest {
    private static final int[] NO_SLOTS = {-1, 8, 9, 1 << 8, Integer.MIN_VALUE, Integer.MAX_VALUE};
    private static final String ILLEGAL = "IllegalArgument";
    private static final String ARITHMETIC = "Arithmetic";
    private static final String NOTHING = "no exception";

    private static final String UNTOUCHED = Check.wholeState(Check.fullDesk(), 6);

    private RefusalsTest() {
    }

    public static void main(String[] args) {
        coefficients();
        noSuchSlot();
        numbersNotTold();
        arithmetic();
        falseChangesNothing();
        firstExceptionWins();
        arithmeticBeforeWeightOrSize();
        Check.end();
    }

    interface Act {
        void on(RootDesk x);
    }

    /** The call ends like this, and leaves everything as it was. */
    private static void refused(String what, String due, Act act) {
        RootDesk x = Check.fullDesk();
        Check.same(what, Check.outcome(() -> act.on(x)), due);
        Check.same("the desk after " + what, Check.wholeState(x, 6), UNTOUCHED);
    }

    /** "coefficients c(0) .. c(6), whole, -1000 .. 1000": no others. */
    private static void coefficients() {
        int[] noIndex = {-1, -2, 7, 8, 1 << 16, Integer.MIN_VALUE, Integer.MAX_VALUE};
        for (int i : noIndex) {
            refused("coefficient(" + i + ", 1)", ILLEGAL, y -> y.coefficient(i, 1));
        }
        int[] noValue = {1001, -1001, 1 << 20, Integer.MIN_VALUE, Integer.MAX_VALUE};
        for (int v : noValue) {
            refused("coefficient(0, " + v + ")", ILLEGAL, y -> y.coefficient(0, v));
            refused("coefficient(6, " + v + ")", ILLEGAL, y -> y.coefficient(6, v));
        }
    }

    /** "A call that throws changes nothing"; "IllegalArgument: there is no such slot". */
    private static void noSuchSlot() {
        for (int w : NO_SLOTS) {
            refused("rootsIn a = " + w, ILLEGAL, x -> x.rootsIn(w, 2));
            refused("rootsIn b = " + w, ILLEGAL, x -> x.rootsIn(2, w));
            refused("signAt a = " + w, ILLEGAL, x -> x.signAt(w));
            refused("take to = " + w, ILLEGAL, x -> x.take(w, 0));
            refused("take to = " + w + " without a root", ILLEGAL, x -> x.take(w, 1));
            refused("fraction to = " + w, ILLEGAL, x -> x.fraction(w, 1, 2));
            refused("copy to = " + w, ILLEGAL, x -> x.copy(w, 2));
            refused("copy a = " + w, ILLEGAL, x -> x.copy(2, w));
            refused("negate to = " + w, ILLEGAL, x -> x.negate(w, 2));
            refused("negate a = " + w, ILLEGAL, x -> x.negate(2, w));
            refused("invert to = " + w, ILLEGAL, x -> x.invert(w, 2));
            refused("invert a = " + w, ILLEGAL, x -> x.invert(2, w));
            for (int i = 0; i < Check.PAIRS.length; i++) {
                Check.Pair p = Check.PAIRS[i];
                refused("pair " + i + " to = " + w, ILLEGAL, x -> p.on(x, w, 1, 2));
                refused("pair " + i + " a = " + w, ILLEGAL, x -> p.on(x, 2, w, 1));
                refused("pair " + i + " b = " + w, ILLEGAL, x -> p.on(x, 2, 1, w));
                refused("pair " + i + " to = " + w + ", too great", ILLEGAL, x -> p.on(x, w, 3, 3));
                refused("pair " + i + " a = " + w + ", too great", ILLEGAL, x -> p.on(x, 3, w, 4));
            }
            refused("root to = " + w, ILLEGAL, x -> x.root(w, 2, 2));
            refused("root a = " + w, ILLEGAL, x -> x.root(2, w, 2));
            refused("root to = " + w + ", too great", ILLEGAL, x -> x.root(w, 4, 2));
            refused("compare a = " + w, ILLEGAL, x -> x.compare(w, 2));
            refused("compare b = " + w, ILLEGAL, x -> x.compare(2, w));
            refused("sign a = " + w, ILLEGAL, x -> x.sign(w));
            refused("print a = " + w, ILLEGAL, x -> x.print(w, 3));
            refused("weight a = " + w, ILLEGAL, x -> x.weight(w));
            refused("size a = " + w, ILLEGAL, x -> x.size(w));
        }
    }

    /** ".. or a number is none of those told here". */
    private static void numbersNotTold() {
        int[] wrong = {Integer.MIN_VALUE, Integer.MIN_VALUE + 1, -1000001, 1000001, Integer.MAX_VALUE};
        for (int w : wrong) {
            refused("coefficient i = " + w, ILLEGAL, x -> x.coefficient(w, 0));
            refused("coefficient v = " + w, ILLEGAL, x -> x.coefficient(3, w));
            refused("fraction p = " + w, ILLEGAL, x -> x.fraction(2, w, 1));
            refused("fraction q = " + w, ILLEGAL, x -> x.fraction(2, 1, w));
            refused("root k = " + w, ILLEGAL, x -> x.root(2, 2, w));
            refused("print k = " + w, ILLEGAL, x -> x.print(2, w));
        }
        refused("coefficient(-1, 1001)", ILLEGAL, x -> x.coefficient(-1, 1001));
        refused("fraction(2, 1, 0)", ILLEGAL, x -> x.fraction(2, 1, 0));
        refused("fraction(2, 0, 0)", ILLEGAL, x -> x.fraction(2, 0, 0));
        refused("fraction(2, 1, -1)", ILLEGAL, x -> x.fraction(2, 1, -1));
        refused("fraction(8, 1000001, 0)", ILLEGAL, x -> x.fraction(8, 1000001, 0));
        int[] noRoot = {-3, -2, -1, 0, 1, 4, 5, 6};
        for (int k : noRoot) {
            refused("root k = " + k, ILLEGAL, x -> x.root(2, 2, k));
            refused("root of 0, k = " + k, ILLEGAL, x -> x.root(2, 0, k));
            refused("root of a number below 0, k = " + k, ILLEGAL, x -> x.root(2, 1, k));
            refused("root of WEIGHT 6, k = " + k, ILLEGAL, x -> x.root(2, 4, k));
        }
        refused("print k = -1", ILLEGAL, x -> x.print(2, -1));
        refused("print k = 31", ILLEGAL, x -> x.print(2, 31));
    }

    /** "Arithmetic: as said there"; nothing changes then. */
    private static void arithmetic() {
        for (int to = 0; to <= 7; to++) {
            int t = to;
            refused("invert 0", ARITHMETIC, x -> x.invert(t, 0));
            refused("invert 0 of WEIGHT 4", ARITHMETIC, x -> x.invert(t, 7));
            refused("divide by 0", ARITHMETIC, x -> x.divide(t, 2, 0));
            refused("divide 0 by 0", ARITHMETIC, x -> x.divide(t, 0, 0));
            refused("divide by 0 of WEIGHT 4", ARITHMETIC, x -> x.divide(t, 1, 7));
            refused("square root of -7 / 3", ARITHMETIC, x -> x.root(t, 1, 2));
            refused("square root of minus a cube root", ARITHMETIC, x -> x.root(t, 3, 2));
            refused("square root of -10^-24", ARITHMETIC, x -> x.root(t, 6, 2));
        }
    }

    /** A call that answers false throws nothing, and changes nothing either. */
    private static void falseChangesNothing() {
        for (int to = 0; to <= 7; to++) {
            int t = to;
            for (Check.Pair p : Check.PAIRS) {
                refused("WEIGHT 9", NOTHING, x -> Check.same("made", p.on(x, t, 3, 3), false));
                refused("WEIGHT 8", NOTHING, x -> Check.same("made", p.on(x, t, 5, 2), false));
                refused("SIZE 152", NOTHING, x -> Check.same("made", p.on(x, t, 6, 1), false));
            }
            refused("root of WEIGHT 12", NOTHING, x -> Check.same("made", x.root(t, 4, 2), false));
            refused("root of WEIGHT 12, of 0", NOTHING, x -> Check.same("made", x.root(t, 7, 3), false));
            refused("root 1 of 1", NOTHING, x -> Check.same("there", x.take(t, 1), false));
            refused("root -1", NOTHING, x -> Check.same("there", x.take(t, -1), false));
        }
    }

    /** "where it lists more than one exception, the first one wins". */
    private static void firstExceptionWins() {
        for (int w : NO_SLOTS) {
            refused("invert(" + w + ", 0)", ILLEGAL, x -> x.invert(w, 0));
            refused("invert(0, " + w + ")", ILLEGAL, x -> x.invert(0, w));
            refused("divide(" + w + ", 2, 0)", ILLEGAL, x -> x.divide(w, 2, 0));
            refused("divide(2, " + w + ", 0)", ILLEGAL, x -> x.divide(2, w, 0));
            refused("divide(0, 0, " + w + ")", ILLEGAL, x -> x.divide(0, 0, w));
            refused("root(" + w + ", 1, 2)", ILLEGAL, x -> x.root(w, 1, 2));
        }
        refused("root(2, 1, 1)", ILLEGAL, x -> x.root(2, 1, 1));
        refused("root(2, 1, 4)", ILLEGAL, x -> x.root(2, 1, 4));
        refused("root(8, 1, 4)", ILLEGAL, x -> x.root(8, 1, 4));
    }

    /** "Arithmetic .. goes before a WEIGHT or SIZE that is too great". */
    private static void arithmeticBeforeWeightOrSize() {
        refused("WEIGHT 12 by 0", ARITHMETIC, x -> x.divide(1, 3, 7));
        refused("SIZE 152 by 0", ARITHMETIC, x -> x.divide(1, 6, 0));
        refused("WEIGHT 16 by 0", ARITHMETIC, x -> x.divide(1, 5, 7));
        RootDesk x = new RootDesk();
        Check.root(x, 0, 1, -3, 0, 0, 0, 0, 0, 1);
        x.negate(0, 0);
        Check.arithmetic("square root of WEIGHT 12, below 0", () -> x.root(1, 0, 2));
        x.negate(0, 0);
        Check.same("above 0", x.root(1, 0, 2), false);
        Check.polynomial(x, 0, 0, 0, 0, 0, 0, 1);
        x.take(0, 0);
        Check.same("0 is not below 0", x.root(1, 0, 2), false);
        // as soon as it is not 0, the WEIGHT counts
        RootDesk y = Check.fullDesk();
        y.add(7, 2, 2);
        Check.same("WEIGHT 12", y.divide(1, 3, 7), false);
        y.fraction(0, -1, 1000000);
        Check.same("SIZE 152", y.divide(1, 6, 0), false);
    }
}
