/**
 * A desk for real algebraic numbers. Each slot's number is kept as a root of a polynomial
 * with whole coefficients and no double roots, together with an interval in which that
 * polynomial has no other root: every answer comes from whole numbers alone.
 */
public final class RootDesk {
    public static final int NONE = -1;

    private static final int TOP = 6;
    private static final int SLOTS = 8;
    private static final int GREATEST_COEFFICIENT = 1000;
    private static final int GREATEST_PART = 1000000;
    private static final int GREATEST_WEIGHT = 6;
    private static final int GREATEST_SIZE = 130;
    private static final int FRACTION_SIZE = 20;
    private static final int ROOT_SIZE = 10;
    private static final int MOST_PLACES = 30;

    /** Far more binary places than are ever needed: two different numbers of a desk agree in some 1,620 at most. */
    private static final int ENOUGH_BITS = 20000;

    private final int[] coefficients = new int[TOP + 1];
    private final Real[] slots = new Real[SLOTS];
    private final Poly given = new Poly();
    private final Poly bare = new Poly();
    private final Narrower narrower;
    private final Isolator isolator;
    private final Maker maker;
    private final Order order;
    private final Printer printer;
    private boolean rootsFound = false;

    public RootDesk() {
        Divider divider = new Divider();
        Modular modular = new Modular(divider);
        narrower = new Narrower(divider);
        isolator = new Isolator();
        maker = new Maker(divider, modular, narrower, isolator);
        order = new Order(modular, narrower);
        printer = new Printer(divider, narrower);
        for (int i = 0; i < SLOTS; i++) {
            slots[i] = new Real();
            slots[i].weigh(1, FRACTION_SIZE);
        }
    }

    public int coefficient(int i, int v) throws IllegalArgumentException {
        if (i < 0 || i > TOP || v < -GREATEST_COEFFICIENT || v > GREATEST_COEFFICIENT) {
            throw new IllegalArgumentException();
        }
        int before = coefficients[i];
        coefficients[i] = v;
        if (before != v) {
            rootsFound = false;
        }
        return before;
    }

    public int degree() {
        int top = TOP;
        while (top >= 0 && coefficients[top] == 0) {
            top--;
        }
        return top < 0 ? NONE : top;
    }

    public int roots() {
        if (degree() == NONE) {
            return NONE;
        }
        findRoots();
        return isolator.count;
    }

    public int rootsIn(int a, int b) throws IllegalArgumentException {
        Real above = slot(a);
        Real upTo = slot(b);
        if (degree() == NONE) {
            return NONE;
        }
        findRoots();
        int n = 0;
        for (int i = 0; i < isolator.count; i++) {
            Real x = isolator.found[i];
            if (order.rank(x, above) > 0 && order.rank(x, upTo) <= 0) {
                n++;
            }
        }
        return n;
    }

    public int signAt(int a) throws IllegalArgumentException {
        Real x = slot(a);
        if (degree() == NONE) {
            return 0;
        }
        findRoots();
        for (int i = 0; i < isolator.count; i++) {
            if (order.rank(isolator.found[i], x) == 0) {
                return 0;
            }
        }
        // the ranking has left no root inside x's interval, so that any point in it tells the sign
        return narrower.signInside(given, x);
    }

    public boolean take(int to, int i) throws IllegalArgumentException {
        Real target = slot(to);
        int d = degree();
        if (d == NONE) {
            return false;
        }
        findRoots();
        if (i < 0 || i >= isolator.count) {
            return false;
        }
        target.assign(isolator.found[i]);
        target.weigh(d, ROOT_SIZE);
        return true;
    }

    public void fraction(int to, int p, int q) throws IllegalArgumentException {
        Real target = slot(to);
        if (p < -GREATEST_PART || p > GREATEST_PART || q < 1 || q > GREATEST_PART) {
            throw new IllegalArgumentException();
        }
        target.assign(maker.ratio(p, q));
        target.weigh(1, FRACTION_SIZE);
    }

    public void copy(int to, int a) throws IllegalArgumentException {
        Real target = slot(to);
        Real x = slot(a);
        target.assign(x);
        target.weigh(x.heft, x.bulk);
    }

    public void negate(int to, int a) throws IllegalArgumentException {
        Real target = slot(to);
        Real x = slot(a);
        target.assign(maker.opposite(x));
        target.weigh(x.heft, x.bulk);
    }

    public void invert(int to, int a) throws IllegalArgumentException, ArithmeticException {
        Real target = slot(to);
        Real x = slot(a);
        if (x.side() == 0) {
            throw new ArithmeticException();
        }
        target.assign(maker.inverse(x));
        target.weigh(x.heft, x.bulk);
    }

    public boolean add(int to, int a, int b) throws IllegalArgumentException {
        Real target = slot(to);
        Real x = slot(a);
        Real y = slot(b);
        if (tooGreat(x, y)) {
            return false;
        }
        settle(target, maker.join(x, y, true), x, y);
        return true;
    }

    public boolean subtract(int to, int a, int b) throws IllegalArgumentException {
        Real target = slot(to);
        Real x = slot(a);
        Real y = slot(b);
        if (tooGreat(x, y)) {
            return false;
        }
        settle(target, maker.join(x, maker.opposite(y), true), x, y);
        return true;
    }

    public boolean multiply(int to, int a, int b) throws IllegalArgumentException {
        Real target = slot(to);
        Real x = slot(a);
        Real y = slot(b);
        if (tooGreat(x, y)) {
            return false;
        }
        settle(target, maker.join(x, y, false), x, y);
        return true;
    }

    public boolean divide(int to, int a, int b) throws IllegalArgumentException, ArithmeticException {
        Real target = slot(to);
        Real x = slot(a);
        Real y = slot(b);
        if (y.side() == 0) {
            throw new ArithmeticException();
        }
        if (tooGreat(x, y)) {
            return false;
        }
        settle(target, maker.join(x, maker.inverse(y), false), x, y);
        return true;
    }

    public boolean root(int to, int a, int k) throws IllegalArgumentException, ArithmeticException {
        Real target = slot(to);
        Real x = slot(a);
        if (k != 2 && k != 3) {
            throw new IllegalArgumentException();
        }
        if (k == 2 && x.side() < 0) {
            throw new ArithmeticException();
        }
        int heft = k * x.heft;
        int bulk = x.bulk;
        if (heft > GREATEST_WEIGHT) {
            return false;
        }
        target.assign(maker.radical(x, k));
        target.weigh(heft, bulk);
        return true;
    }

    public int compare(int a, int b) throws IllegalArgumentException {
        return order.rank(slot(a), slot(b));
    }

    public int sign(int a) throws IllegalArgumentException {
        return slot(a).side();
    }

    public int print(int a, int k) throws IllegalArgumentException {
        Real x = slot(a);
        if (k < 0 || k > MOST_PLACES) {
            throw new IllegalArgumentException();
        }
        return printer.write(x, k);
    }

    public int character(int i) {
        return i < 0 || i >= printer.length ? NONE : printer.text[i];
    }

    public int weight(int a) throws IllegalArgumentException {
        return slot(a).heft;
    }

    public int size(int a) throws IllegalArgumentException {
        return slot(a).bulk;
    }

    private Real slot(int i) throws IllegalArgumentException {
        if (i < 0 || i >= SLOTS) {
            throw new IllegalArgumentException();
        }
        return slots[i];
    }

    private static int joinedSize(Real x, Real y) {
        return y.heft * (x.bulk + 6) + x.heft * (y.bulk + y.heft + 6);
    }

    private static boolean tooGreat(Real x, Real y) {
        return x.heft * y.heft > GREATEST_WEIGHT || joinedSize(x, y) > GREATEST_SIZE;
    }

    /** The target may be x or y itself, so their WEIGHT and SIZE are reckoned before it is written. */
    private static void settle(Real target, Real result, Real x, Real y) {
        int heft = x.heft * y.heft;
        int bulk = joinedSize(x, y);
        target.assign(result);
        target.weigh(heft, bulk);
    }

    private void findRoots() {
        if (rootsFound) {
            return;
        }
        for (int i = 0; i <= TOP; i++) {
            given.c[i].assignLong(coefficients[i]);
        }
        given.settle(TOP);
        if (given.deg < 1) {
            isolator.count = 0;
        } else {
            bare.assign(given);
            maker.dropDoubles(bare);
            isolator.isolate(bare, rootBound());
        }
        rootsFound = true;
    }

    /** A power of two above every root's distance from 0, after Cauchy. */
    private int rootBound() {
        int lead = Math.abs(coefficients[Math.max(0, given.deg)]);
        int greatest = 0;
        for (int i = 0; i < given.deg; i++) {
            greatest = Math.max(greatest, Math.abs(coefficients[i]));
        }
        int power = 0;
        while (power < 11 && (lead << power) < lead + greatest) {
            power++;
        }
        return power;
    }

    /**
     * A whole number of any length. Each is written over again and again, so that the calls
     * of a long run make next to no objects; limbs of 30 bits keep all sums and products
     * within Java's signed numbers.
     */
    private static final class Big {
        private static final int LIMB = 30;
        private static final int BASE = 1 << 30;
        private static final int MASK = BASE - 1;

        int[] limbs = new int[6];
        int used = 0;
        int signum = 0;

        void clear() {
            used = 0;
            signum = 0;
        }

        void assign(Big o) {
            if (o == this) {
                return;
            }
            if (limbs.length < o.used) {
                limbs = new int[o.used + o.used / 2];
            }
            for (int i = 0; i < o.used; i++) {
                limbs[i] = o.limbs[i];
            }
            used = o.used;
            signum = o.signum;
        }

        void assignLong(long v) {
            signum = v > 0 ? 1 : v < 0 ? -1 : 0;
            used = 0;
            long rest = v < 0 ? -v : v;
            for (int i = 0; i < 3 && rest != 0; i++) {
                limbs[i] = (int) (rest & MASK);
                used++;
                rest >>>= LIMB;
            }
        }

        void assignPower(int bits) {
            assignLong(1);
            shiftUp(bits);
        }

        void flip() {
            signum = -signum;
        }

        boolean isOne() {
            return signum > 0 && used == 1 && limbs[0] == 1;
        }

        boolean isOdd() {
            return used > 0 && (limbs[0] & 1) != 0;
        }

        int bits() {
            return used == 0 ? 0 : (used - 1) * LIMB + bitsOf(limbs[used - 1]);
        }

        int lowZeros() {
            int i = 0;
            while (i < used && limbs[i] == 0) {
                i++;
            }
            if (i >= used) {
                return 0;
            }
            int n = 0;
            while (n < LIMB && (limbs[i] >> n & 1) == 0) {
                n++;
            }
            return i * LIMB + n;
        }

        /** This becomes a + b; like minus, it may be a or b itself. */
        void plus(Big a, Big b) {
            int sign = a.signum != 0 ? a.signum : b.signum;
            if (a.signum * b.signum >= 0) {
                addSizes(a, b, sign);
            } else {
                takeSizes(a, b, sign);
            }
        }

        void minus(Big a, Big b) {
            int sign = a.signum != 0 ? a.signum : -b.signum;
            if (a.signum * b.signum <= 0) {
                addSizes(a, b, sign);
            } else {
                takeSizes(a, b, sign);
            }
        }

        private void addSizes(Big a, Big b, int sign) {
            int[] x = a.used >= b.used ? a.limbs : b.limbs;
            int[] y = a.used >= b.used ? b.limbs : a.limbs;
            int n = a.used >= b.used ? a.used : b.used;
            int m = a.used >= b.used ? b.used : a.used;
            if (limbs.length <= n) {
                limbs = new int[n + n / 2 + 2];
            }
            int carry = 0;
            for (int i = 0; i < n; i++) {
                int s = x[i] + carry + (i < m ? y[i] : 0);
                limbs[i] = s & MASK;
                carry = s >>> LIMB;
            }
            limbs[n] = carry;
            used = n + carry;
            signum = sign;
        }

        /** The sign is that of a result not below 0. */
        private void takeSizes(Big a, Big b, int sign) {
            int[] x = a.limbs;
            int[] y = b.limbs;
            int aUsed = a.used;
            int bUsed = b.used;
            int n = aUsed >= bUsed ? aUsed : bUsed;
            if (limbs.length < n) {
                limbs = new int[n + n / 2 + 2];
            }
            int borrow = 0;
            for (int i = 0; i < n; i++) {
                int s = (i < aUsed ? x[i] : 0) - (i < bUsed ? y[i] : 0) - borrow;
                borrow = s >>> 31;
                limbs[i] = s & MASK;
            }
            signum = borrow == 0 ? sign : -sign;
            int carry = borrow;
            for (int i = 0; i < n && borrow != 0; i++) {
                int s = MASK - limbs[i] + carry;
                limbs[i] = s & MASK;
                carry = s >>> LIMB;
            }
            used = n;
            while (used > 0 && limbs[used - 1] == 0) {
                used--;
            }
            signum = used == 0 ? 0 : signum;
        }

        /** This becomes a b, and is neither of them itself. */
        void times(Big a, Big b) {
            int n = a.used;
            int m = b.used;
            if (n == 0 || m == 0) {
                clear();
                return;
            }
            if (limbs.length < n + m) {
                limbs = new int[n + m + (n + m) / 2];
            }
            int[] x = a.limbs;
            int[] y = b.limbs;
            int[] z = limbs;
            for (int j = 0; j < m; j++) {
                z[j] = 0;
            }
            for (int i = 0; i < n; i++) {
                long factor = x[i];
                long carry = 0;
                for (int j = 0; j < m; j++) {
                    carry += factor * y[j] + z[i + j];
                    z[i + j] = (int) (carry & MASK);
                    carry >>>= LIMB;
                }
                z[i + m] = (int) carry;
            }
            used = z[n + m - 1] == 0 ? n + m - 1 : n + m;
            signum = a.signum * b.signum;
        }

        void timesSmall(int v) {
            int[] x = limbs;
            if (limbs.length <= used) {
                limbs = new int[used + used / 2 + 2];
            }
            long factor = v < 0 ? -v : v;
            long carry = 0;
            for (int i = 0; i < used; i++) {
                carry += factor * x[i];
                limbs[i] = (int) (carry & MASK);
                carry >>>= LIMB;
            }
            limbs[used] = (int) carry;
            used += carry == 0 ? 0 : 1;
            signum = v < 0 ? -signum : signum;
            trim();
        }

        /** Multiplies by 2 to the power of n. */
        void shiftUp(int n) {
            if (signum == 0 || n <= 0) {
                return;
            }
            int whole = n / LIMB;
            int part = n % LIMB;
            int top = used + whole;
            int[] x = limbs;
            if (limbs.length <= top) {
                limbs = new int[top + top / 2 + 2];
            }
            int[] z = limbs;
            z[top] = x[used - 1] >>> LIMB - part;
            for (int i = used - 1; i > 0; i--) {
                z[i + whole] = x[i] << part & MASK | x[i - 1] >>> LIMB - part;
            }
            z[whole] = x[0] << part & MASK;
            for (int i = 0; i < whole; i++) {
                z[i] = 0;
            }
            used = z[top] == 0 ? top : top + 1;
        }

        /** Divides by 2 to the power of n, rounded down. */
        void shiftDown(int n) {
            if (signum == 0 || n <= 0) {
                return;
            }
            boolean awayFromZero = signum < 0 && lowZeros() < n;
            int whole = n / LIMB;
            int part = n % LIMB;
            int left = used > whole ? used - whole : 0;
            for (int i = 0; i < left; i++) {
                int next = i + 1 < left ? limbs[i + whole + 1] : 0;
                limbs[i] = limbs[i + whole] >>> part | next << LIMB - part & MASK;
            }
            used = left;
            trim();
            if (awayFromZero) {
                growByOne();
            }
        }

        /** Divides by 2 to the power of n, rounded up. */
        void shiftDownUp(int n) {
            flip();
            shiftDown(n);
            flip();
        }

        /** Takes one from a number that is 0 or less and has just been made shorter. */
        private void growByOne() {
            int i = 0;
            while (i < used && limbs[i] == MASK) {
                limbs[i] = 0;
                i++;
            }
            if (i == used) {
                limbs[i] = 0;
                used++;
            }
            limbs[i]++;
            signum = -1;
        }

        /** Divides the size by d, rounded down: the rest. */
        int divideSmall(int d) {
            if (d == 0) {
                return 0;
            }
            long rest = 0;
            for (int i = used - 1; i >= 0; i--) {
                rest = rest << LIMB | limbs[i];
                limbs[i] = (int) (rest / d);
                rest %= d;
            }
            if (used > 0 && limbs[used - 1] == 0) {
                used--;
            }
            signum = used == 0 ? 0 : signum;
            return (int) rest;
        }

        /** What is left modulo p, 0 .. p - 1. */
        int modulo(int p) {
            if (p == 0) {
                return 0;
            }
            long rest = 0;
            for (int i = used - 1; i >= 0; i--) {
                rest = (rest << LIMB | limbs[i]) % p;
            }
            return (int) (signum < 0 && rest != 0 ? p - rest : rest);
        }

        /** The size, if it has at most two limbs. */
        long smallSize() {
            long low = used > 0 ? limbs[0] : 0;
            return used > 1 ? (long) limbs[1] << LIMB | low : low;
        }

        void trim() {
            while (used > 0 && limbs[used - 1] == 0) {
                used--;
            }
            if (used == 0) {
                signum = 0;
            }
        }

        static int rankSizes(Big a, Big b) {
            if (a.used != b.used) {
                return a.used < b.used ? -1 : 1;
            }
            for (int i = a.used - 1; i >= 0; i--) {
                if (a.limbs[i] != b.limbs[i]) {
                    return a.limbs[i] < b.limbs[i] ? -1 : 1;
                }
            }
            return 0;
        }

        static int rank(Big a, Big b) {
            if (a.signum != b.signum) {
                return a.signum < b.signum ? -1 : 1;
            }
            return a.signum * rankSizes(a, b);
        }

        static int bitsOf(int v) {
            int rest = v;
            int n = 0;
            for (int step = 16; step > 0; step >>= 1) {
                if (rest >>> step != 0) {
                    rest >>>= step;
                    n += step;
                }
            }
            return n + rest;
        }
    }

    /** Quotients and common divisors of whole numbers and of polynomials. */
    private static final class Divider {
        private final Big part = new Big();
        private final Big one = new Big();
        private final Big content = new Big();
        private final Poly rest = new Poly();
        private int[] divisor = new int[6];
        private Big x = new Big();
        private Big y = new Big();
        private Big z = new Big();

        Divider() {
            one.assignLong(1);
        }

        /** a = b q + r, q rounded towards 0; all four are different objects. By Knuth's long division. */
        void quotient(Big a, Big b, Big q, Big r) {
            int n = b.used;
            int places = a.used - n;
            if (n == 0 || places < 0) {
                q.clear();
                r.assign(a);
                return;
            }
            if (n == 1) {
                q.assign(a);
                r.assignLong(q.divideSmall(b.limbs[0]));
            } else {
                makeRoom(a.used, n, q, r);
                int shift = Big.LIMB - Big.bitsOf(b.limbs[n - 1]);
                shiftInto(divisor, b, shift);
                shiftInto(r.limbs, a, shift);
                for (int j = places; j >= 0; j--) {
                    q.limbs[j] = digit(r.limbs, divisor, n, j);
                }
                q.used = places + 1;
                shiftBack(r.limbs, n, shift);
                r.used = n;
                r.signum = 1;
                r.trim();
            }
            q.signum = a.signum * b.signum;
            q.trim();
            r.signum *= a.signum;
        }

        private void makeRoom(int aUsed, int n, Big q, Big r) {
            if (divisor.length <= n) {
                divisor = new int[n + n / 2 + 1];
            }
            if (r.limbs.length <= aUsed) {
                r.limbs = new int[aUsed + aUsed / 2 + 1];
            }
            if (q.limbs.length <= aUsed - n) {
                q.limbs = new int[aUsed + 1];
            }
        }

        /** So that the divisor's first bit stands at the head of its limb. */
        private static void shiftInto(int[] z, Big from, int shift) {
            int below = 0;
            for (int i = 0; i < from.used; i++) {
                int v = from.limbs[i];
                z[i] = v << shift & Big.MASK | below;
                below = v >>> Big.LIMB - shift;
            }
            z[from.used] = below;
        }

        private static void shiftBack(int[] z, int n, int shift) {
            for (int i = 0; i < n; i++) {
                int next = i + 1 < n ? z[i + 1] : 0;
                z[i] = z[i] >>> shift | next << Big.LIMB - shift & Big.MASK;
            }
        }

        /** Likewise for b above 0, but q rounded down. */
        void quotientDown(Big a, Big b, Big q, Big r) {
            quotient(a, b, q, r);
            if (r.signum < 0) {
                q.minus(q, one);
                r.plus(r, b);
            }
        }

        /** The quotient's limb j; what it stands for is taken off u. */
        private static int digit(int[] u, int[] v, int n, int j) {
            long head = (long) u[j + n] << Big.LIMB | u[j + n - 1];
            long guess = head / v[n - 1];
            long left = head % v[n - 1];
            for (int i = 0; i < 3 && left < Big.BASE
                    && (guess >= Big.BASE || guess * v[n - 2] > (left << Big.LIMB | u[j + n - 2])); i++) {
                guess--;
                left += v[n - 1];
            }
            long carry = 0;
            int borrow = 0;
            for (int i = 0; i < n; i++) {
                carry += guess * v[i];
                int d = u[i + j] - (int) (carry & Big.MASK) - borrow;
                borrow = d >>> 31;
                u[i + j] = d & Big.MASK;
                carry >>>= Big.LIMB;
            }
            boolean tooMuch = u[j + n] - carry - borrow < 0;
            u[j + n] = 0;
            int back = 0;
            for (int i = 0; i < n && tooMuch; i++) {
                int s = u[i + j] + v[i] + back;
                u[i + j] = s & Big.MASK;
                back = s >>> Big.LIMB;
            }
            return (int) (tooMuch ? guess - 1 : guess);
        }

        /** The greatest common divisor, into out; by Euclid. */
        private void common(Big a, Big b, Big out) {
            x.assign(a);
            y.assign(b);
            for (int i = 0; i < 1000000 && y.signum != 0 && (x.used > 2 || y.used > 2); i++) {
                quotient(x, y, part, z);
                Big old = x;
                x = y;
                y = z;
                z = old;
            }
            if (y.signum != 0) {
                out.assignLong(commonSmall(x.smallSize(), y.smallSize()));
            } else {
                out.assign(x);
                out.signum = Math.abs(x.signum);
            }
        }

        private static long commonSmall(long a, long b) {
            long u = a;
            long v = b;
            for (int i = 0; i < 200 && v != 0; i++) {
                long w = u % v;
                u = v;
                v = w;
            }
            return u;
        }

        /** Divides f by what all its coefficients have in common; its leading one becomes positive. */
        void makePrimitive(Poly f) {
            content.clear();
            for (int i = f.deg; i >= 0 && !content.isOne(); i--) {
                if (f.c[i].signum != 0) {
                    common(f.c[i], content, content);
                }
            }
            divideAll(f, content);
            f.raiseLead();
        }

        /** d divides each coefficient of f. */
        void divideAll(Poly f, Big d) {
            if (d.isOne()) {
                return;
            }
            for (int i = 0; i <= f.deg; i++) {
                quotient(f.c[i], d, part, z);
                f.c[i].assign(part);
            }
        }

        /** Whether b divides a in whole coefficients; then with the quotient in q. */
        boolean divides(Poly a, Poly b, Poly q) {
            if (b.deg < 0 || a.deg < b.deg) {
                return false;
            }
            rest.assign(a);
            for (int i = a.deg - b.deg; i >= 0; i--) {
                quotient(rest.c[i + b.deg], b.c[b.deg], q.c[i], z);
                if (z.signum != 0) {
                    return false;
                }
                for (int j = 0; j <= b.deg; j++) {
                    part.times(q.c[i], b.c[j]);
                    rest.c[i + j].minus(rest.c[i + j], part);
                }
            }
            q.settle(a.deg - b.deg);
            rest.settle(a.deg);
            return rest.deg < 0;
        }
    }

    /** A polynomial of degree 6 at most; coefficients above its degree are of no account. */
    private static final class Poly {
        final Big[] c = new Big[TOP + 1];
        int deg = NONE;

        Poly() {
            for (int i = 0; i <= TOP; i++) {
                c[i] = new Big();
            }
        }

        void assign(Poly o) {
            deg = o.deg;
            for (int i = 0; i <= deg; i++) {
                c[i].assign(o.c[i]);
            }
        }

        void settle(int most) {
            deg = most;
            while (deg >= 0 && c[deg].signum == 0) {
                deg--;
            }
        }

        void assignOne() {
            c[0].assignLong(1);
            deg = 0;
        }

        Big lead() {
            return c[Math.max(0, deg)];
        }

        boolean sameAs(Poly o) {
            if (deg != o.deg) {
                return false;
            }
            for (int i = 0; i <= deg; i++) {
                if (Big.rank(c[i], o.c[i]) != 0) {
                    return false;
                }
            }
            return true;
        }

        void raiseLead() {
            if (lead().signum < 0) {
                for (int i = 0; i <= deg; i++) {
                    c[i].flip();
                }
            }
        }

        void assignSlope(Poly f) {
            deg = f.deg - 1;
            for (int i = 0; i <= deg; i++) {
                c[i].assign(f.c[i + 1]);
                c[i].timesSmall(i + 1);
            }
        }

        /** Each root r becomes -r. */
        void mirror() {
            for (int i = 1; i <= deg; i += 2) {
                c[i].flip();
            }
            raiseLead();
        }

        /** Each root r becomes 1 / r; 0 is no root. */
        void turn() {
            for (int i = 0, j = deg; i < j; i++, j--) {
                Big b = c[i];
                c[i] = c[j];
                c[j] = b;
            }
            raiseLead();
        }

        void dropZeroRoot() {
            if (deg < 1 || c[0].signum != 0) {
                return;
            }
            Big zero = c[0];
            for (int i = 0; i < deg; i++) {
                c[i] = c[i + 1];
            }
            c[deg] = zero;
            deg--;
        }

        /** f with the power k of x for x. */
        void assignStretched(Poly f, int k) {
            deg = Math.min(TOP, f.deg * k);
            for (int i = 0; i <= deg; i++) {
                c[i].clear();
                if (i % k == 0) {
                    c[i].assign(f.c[i / k]);
                }
            }
        }
    }

    /** Common divisors of polynomials, put together from those modulo primes. */
    private static final class Modular {
        /**
         * Enough primes for every pair: at most 62 can mislead (they divide a resultant below 2 to
         * the power of 1620 or a leading coefficient below 2 to the power of 136), and with ten
         * others the lifted coefficients, below 2 to the power of 272, no longer change.
         */
        private static final int[] PRIMES = {
            1073741789, 1073741783, 1073741741, 1073741723, 1073741719, 1073741717, 1073741689, 1073741671,
            1073741663, 1073741651, 1073741621, 1073741567, 1073741561, 1073741527, 1073741503, 1073741477,
            1073741467, 1073741441, 1073741419, 1073741399, 1073741387, 1073741381, 1073741371, 1073741329,
            1073741311, 1073741309, 1073741287, 1073741237, 1073741213, 1073741197, 1073741189, 1073741173,
            1073741101, 1073741077, 1073741047, 1073740963, 1073740951, 1073740933, 1073740909, 1073740879,
            1073740853, 1073740847, 1073740819, 1073740807, 1073740793, 1073740783, 1073740781, 1073740697,
            1073740693, 1073740691, 1073740649, 1073740609, 1073740571, 1073740567, 1073740543, 1073740541,
            1073740537, 1073740529, 1073740523, 1073740517, 1073740501, 1073740489, 1073740477, 1073740463,
            1073740439, 1073740403, 1073740391, 1073740379, 1073740249, 1073740201, 1073740189, 1073740183,
            1073740177, 1073740163, 1073740147, 1073740139, 1073740133, 1073740127, 1073740123, 1073740079
        };

        private final Divider divider;
        private final Poly lifted = new Poly();
        private final Poly quotient = new Poly();
        private final Big modulus = new Big();
        private final Big term = new Big();
        private int[] u = new int[TOP + 1];
        private int[] v = new int[TOP + 1];
        private int uDeg = 0;
        private int vDeg = 0;

        Modular(Divider divider) {
            this.divider = divider;
        }

        /** The greatest common divisor of p and q, both of degree 1 or more, without a factor of its own. */
        void common(Poly p, Poly q, Poly out) {
            Big lead = p.lead().bits() <= q.lead().bits() ? p.lead() : q.lead();
            lifted.deg = TOP + 1;
            for (int i = 0; i < PRIMES.length; i++) {
                int prime = PRIMES[i];
                if (p.lead().modulo(prime) == 0 || q.lead().modulo(prime) == 0) {
                    continue;
                }
                reduce(p, q, prime);
                euclid(prime);
                if (uDeg <= 0) {
                    break;
                }
                if (uDeg > lifted.deg) {
                    continue;
                }
                if (uDeg < lifted.deg) {
                    restart();
                }
                if (!lift(lead.modulo(prime), prime)) {
                    out.assign(lifted);
                    divider.makePrimitive(out);
                    if (divider.divides(p, out, quotient) && divider.divides(q, out, quotient)) {
                        return;
                    }
                }
            }
            out.assignOne();
        }

        private void reduce(Poly p, Poly q, int prime) {
            uDeg = p.deg;
            for (int i = 0; i <= uDeg; i++) {
                u[i] = p.c[i].modulo(prime);
            }
            vDeg = q.deg;
            for (int i = 0; i <= vDeg; i++) {
                v[i] = q.c[i].modulo(prime);
            }
        }

        /** Leaves the common divisor of u and v in u, with 1 in front. */
        private void euclid(int prime) {
            for (int i = 0; i < 2 * TOP + 4 && vDeg >= 0; i++) {
                makeMonic(v, vDeg, prime);
                for (int j = uDeg - vDeg; j >= 0; j--) {
                    takeOff(j, prime);
                }
                while (uDeg >= 0 && u[uDeg] == 0) {
                    uDeg--;
                }
                int[] row = u;
                u = v;
                v = row;
                int d = uDeg;
                uDeg = vDeg;
                vDeg = d;
            }
        }

        /** Takes so much of v, moved up by j, off u that u's coefficient over v's head goes. */
        private void takeOff(int j, int prime) {
            long factor = u[j + vDeg];
            if (factor == 0) {
                return;
            }
            factor = prime - factor;
            for (int i = 0; i <= vDeg; i++) {
                u[i + j] = (int) ((u[i + j] + factor * v[i]) % prime);
            }
        }

        private static void makeMonic(int[] row, int deg, int prime) {
            long by = inverse(row[deg], prime);
            for (int i = 0; i <= deg; i++) {
                row[i] = (int) (row[i] * by % prime);
            }
        }

        private static long inverse(int a, int prime) {
            long r = prime;
            long s = a;
            long x = 0;
            long y = 1;
            for (int i = 0; i < 100 && s != 0; i++) {
                long q = r / s;
                long t = r - q * s;
                r = s;
                s = t;
                t = x - q * y;
                x = y;
                y = t;
            }
            return Math.floorMod(x, (long) prime);
        }

        private void restart() {
            lifted.deg = uDeg;
            for (int i = 0; i <= uDeg; i++) {
                lifted.c[i].clear();
            }
            modulus.assignLong(1);
        }

        /** Makes lifted agree with u times the leading coefficient modulo one prime more: whether it changed. */
        private boolean lift(long lead, int prime) {
            long by = inverse(modulus.modulo(prime), prime);
            boolean changed = false;
            for (int i = 0; i <= lifted.deg; i++) {
                long want = u[i] * lead % prime;
                long lack = (want - lifted.c[i].modulo(prime) + prime) % prime * by % prime;
                if (lack != 0) {
                    changed = true;
                    term.assign(modulus);
                    // the nearer of the two ways keeps coefficients below 0 short
                    term.timesSmall((int) (lack > prime / 2 ? lack - prime : lack));
                    lifted.c[i].plus(lifted.c[i], term);
                }
            }
            modulus.timesSmall(prime);
            return changed;
        }
    }

    /**
     * A real number: the only root of f between lo and hi, both over 2 to the power of e, or,
     * if exact, lo itself. f has no double root and is not 0 at lo and hi; 0 never lies
     * between them, so that the sign is plain.
     */
    private static final class Real {
        final Poly f = new Poly();
        final Big lo = new Big();
        final Big hi = new Big();
        int e = 0;
        int low = 0;
        boolean exact = true;
        int heft = 1;
        int bulk = 0;

        Real() {
            f.c[1].assignLong(1);
            f.deg = 1;
        }

        void weigh(int weight, int size) {
            heft = weight;
            bulk = size;
        }

        void assign(Real o) {
            f.assign(o.f);
            lo.assign(o.lo);
            hi.assign(o.hi);
            e = o.e;
            low = o.low;
            exact = o.exact;
        }

        int side() {
            return hi.signum > 0 ? 1 : lo.signum;
        }

        /** Becomes m over 2 to the power of me. */
        void becomePoint(Big m, int me) {
            lo.assign(m);
            int spare = Math.min(me, lo.lowZeros());
            lo.shiftDown(spare);
            e = lo.signum == 0 ? 0 : me - spare;
            hi.assign(lo);
            exact = true;
            f.c[0].assign(lo);
            f.c[0].flip();
            f.c[1].assignPower(e);
            f.deg = 1;
        }

        /** Becomes the opposite number. */
        void turnOver() {
            low = f.deg % 2 == 0 ? -low : low;
            f.mirror();
            lo.flip();
            hi.flip();
            if (!exact) {
                swapEnds();
            }
        }

        private void swapEnds() {
            int[] row = lo.limbs;
            int n = lo.used;
            int s = lo.signum;
            lo.limbs = hi.limbs;
            lo.used = hi.used;
            lo.signum = hi.signum;
            hi.limbs = row;
            hi.used = n;
            hi.signum = s;
        }

        /** Makes room for an end over 2 to the power of me. */
        void alignTo(int me) {
            if (me > e) {
                lo.shiftUp(me - e);
                hi.shiftUp(me - e);
                e = me;
            }
        }
    }

    /** Signs of polynomials at points, and the narrowing of intervals by them. */
    private static final class Narrower {
        private final Divider divider;
        private final Big value = new Big();
        private final Big product = new Big();
        private final Big term = new Big();
        private final Big gap = new Big();
        private final Big mid = new Big();
        private final Big end = new Big();
        private final Big near = new Big();
        private final Big far = new Big();
        private final Big guess = new Big();
        private final Big left = new Big();

        Narrower(Divider divider) {
            this.divider = divider;
        }

        /** The sign of f at m over 2 to the power of e; value is f there times that power's power deg. */
        int signOf(Poly f, Big m, int e) {
            value.assign(f.lead());
            for (int i = f.deg - 1; i >= 0; i--) {
                product.times(value, m);
                term.assign(f.c[i]);
                term.shiftUp(e * (f.deg - i));
                value.plus(product, term);
            }
            return value.signum;
        }

        /** The sign of f at a point of x's interval that is not one of its ends, or at x if exact. */
        int signInside(Poly f, Real x) {
            mid.plus(x.lo, x.hi);
            return signOf(f, mid, x.e + 1);
        }

        /** Ranks a over 2 to the power of ae and b over 2 to the power of be. */
        int rankAt(Big a, int ae, Big b, int be) {
            if (ae < be) {
                left.assign(a);
                left.shiftUp(be - ae);
                return Big.rank(left, b);
            }
            left.assign(b);
            left.shiftUp(ae - be);
            return Big.rank(a, left);
        }

        /** Cuts x's interval at m over 2 to the power of me, which lies within. */
        void cutAt(Real x, Big m, int me) {
            end.assign(m);
            keepSide(x, me, signOf(x.f, end, me));
        }

        /** Keeps the side of end, where f has this sign, that x is on. */
        private void keepSide(Real x, int me, int sign) {
            if (sign == 0) {
                x.becomePoint(end, me);
                return;
            }
            x.alignTo(me);
            end.shiftUp(x.e - me);
            if (sign == x.low) {
                x.lo.assign(end);
            } else {
                x.hi.assign(end);
            }
        }

        private void halve(Real x) {
            end.plus(x.lo, x.hi);
            int me = x.e + 1;
            keepSide(x, me, signOf(x.f, end, me));
            if (!x.exact && !x.lo.isOdd() && !x.hi.isOdd()) {
                x.lo.shiftDown(1);
                x.hi.shiftDown(1);
                x.e--;
            }
        }

        /** Narrows x's interval to at most 2 to the power of -bits. */
        void narrow(Real x, int bits) {
            int jump = 4;
            for (int i = 0; i < 100000 && !x.exact; i++) {
                gap.minus(x.hi, x.lo);
                int lack = gap.bits() - x.e + bits;
                if (lack <= 0) {
                    return;
                }
                if (jump < 4 || lack < 4) {
                    halve(x);
                    jump++;
                } else {
                    int bold = Math.min(jump, lack);
                    guessPart(x, bold);
                    jump = leap(x, bold) ? jump + jump : jump / 4;
                }
            }
        }

        /** Of 2 to the power of jump equal parts: near a root, the chord of f tells the one it is in. */
        private void guessPart(Real x, int jump) {
            signOf(x.f, x.lo, x.e);
            near.assign(value);
            near.signum = 1;
            signOf(x.f, x.hi, x.e);
            far.assign(value);
            far.signum = 1;
            far.plus(far, near);
            near.shiftUp(jump);
            divider.quotient(near, far, guess, mid);
        }

        /** Tries to leave of the interval but the part that was guessed, or its neighbour: whether x is there. */
        private boolean leap(Real x, int jump) {
            gap.minus(x.hi, x.lo);
            mid.times(gap, guess);
            end.assign(x.lo);
            end.shiftUp(jump);
            mid.plus(mid, end);
            int me = x.e + jump;
            int atMid = signOf(x.f, mid, me);
            if (atMid == 0) {
                x.becomePoint(mid, me);
                return true;
            }
            if (atMid == x.low) {
                end.plus(mid, gap);
            } else {
                end.minus(mid, gap);
            }
            int atEnd = signOf(x.f, end, me);
            if (atEnd == 0) {
                x.becomePoint(end, me);
            } else if (atEnd != atMid) {
                x.lo.assign(atMid == x.low ? mid : end);
                x.hi.assign(atMid == x.low ? end : mid);
                x.e = me;
            }
            return atEnd != atMid;
        }

        /** Gives x, whose f has degree 1, its first interval. */
        void placeLinear(Real x) {
            near.assign(x.f.c[0]);
            near.flip();
            divider.quotientDown(near, x.f.c[1], guess, mid);
            if (mid.signum == 0) {
                x.becomePoint(guess, 0);
                return;
            }
            x.lo.assign(guess);
            mid.assignLong(1);
            x.hi.plus(guess, mid);
            x.e = 0;
            x.low = -1;
            x.exact = false;
        }
    }

    /** Finds the intervals of a polynomial's roots by Descartes' rule of signs. */
    private static final class Isolator {
        final Real[] found = new Real[TOP];
        int count = 0;

        private final Big[] t = new Big[TOP + 1];
        private final Big term = new Big();
        private final Big power = new Big();
        private final Big width = new Big();
        private final Big node = new Big();
        private final Big one = new Big();
        private final Big lo = new Big();
        private final Big hi = new Big();
        private int e = 0;
        private int atLow = 0;
        private int atHigh = 0;

        Isolator() {
            for (int i = 0; i <= TOP; i++) {
                t[i] = new Big();
            }
            for (int i = 0; i < TOP; i++) {
                found[i] = new Real();
            }
            one.assignLong(1);
        }

        /** Whether the rule tells that f has one root between lo and hi, and none at either. */
        boolean isAlone(Real x) {
            return changes(x.f, x.lo, x.hi, x.e) == 1 && atLow != 0 && atHigh != 0;
        }

        /**
         * Walks from left to right over the halves, quarters .. of the two intervals between
         * minus and plus 2 to the power of bound, which hold all roots of f; node counts those
         * of a level, 0 being the first to the right of 0.
         */
        void isolate(Poly f, int bound) {
            count = 0;
            node.assignLong(-1);
            int level = 0;
            for (int i = 0; i < 1000000; i++) {
                frame(bound - level);
                int n = changes(f, lo, hi, e);
                boolean plain = n == 0 || n == 1 && atLow != 0 && atHigh != 0;
                if (!plain) {
                    node.shiftUp(1);
                    level++;
                    continue;
                }
                if (n == 1) {
                    keepSpan(f);
                }
                if (atHigh == 0) {
                    keepPoint();
                }
                node.plus(node, one);
                while (level > 0 && !node.isOdd()) {
                    node.shiftDown(1);
                    level--;
                }
                if (level == 0 && node.signum > 0) {
                    return;
                }
            }
        }

        private void frame(int widthBits) {
            e = Math.max(0, -widthBits);
            lo.assign(node);
            hi.plus(node, one);
            lo.shiftUp(widthBits);
            hi.shiftUp(widthBits);
        }

        private void keepSpan(Poly f) {
            if (count >= TOP) {
                return;
            }
            Real x = found[count++];
            x.f.assign(f);
            x.lo.assign(lo);
            x.hi.assign(hi);
            x.e = e;
            x.low = atLow;
            x.exact = false;
        }

        private void keepPoint() {
            if (count < TOP) {
                found[count++].becomePoint(hi, e);
            }
        }

        /**
         * How often the signs change in the polynomial whose positive roots are the roots of f
         * between a and b (over 2 to the power of e): as many roots are there, or fewer by an
         * even number.
         */
        private int changes(Poly f, Big a, Big b, int me) {
            int n = f.deg;
            for (int i = 0; i <= n; i++) {
                t[i].assign(f.c[i]);
                t[i].shiftUp(me * (n - i));
            }
            shiftBy(a, n);
            width.minus(b, a);
            if (!width.isOne()) {
                stretch(n);
            }
            for (int i = 0, j = n; i < j; i++, j--) {
                Big old = t[i];
                t[i] = t[j];
                t[j] = old;
            }
            shiftByOne(n);
            atLow = t[n].signum;
            atHigh = t[0].signum;
            return countChanges(n);
        }

        private void shiftBy(Big a, int n) {
            if (a.signum == 0) {
                return;
            }
            for (int i = 0; i < n; i++) {
                for (int j = n - 1; j >= i; j--) {
                    term.times(a, t[j + 1]);
                    t[j].plus(t[j], term);
                }
            }
        }

        private void shiftByOne(int n) {
            for (int i = 0; i < n; i++) {
                for (int j = n - 1; j >= i; j--) {
                    t[j].plus(t[j], t[j + 1]);
                }
            }
        }

        private void stretch(int n) {
            power.assign(width);
            for (int i = 1; i <= n; i++) {
                term.times(t[i], power);
                t[i].assign(term);
                term.times(power, width);
                power.assign(term);
            }
        }

        private int countChanges(int n) {
            int changes = 0;
            int last = 0;
            for (int i = 0; i <= n; i++) {
                int s = t[i].signum;
                if (s != 0) {
                    changes += s == -last ? 1 : 0;
                    last = s;
                }
            }
            return changes;
        }
    }

    /** The polynomials of sums and products, by way of the sums of the powers of the roots. */
    private static final class Blender {
        private final Divider divider;
        private final Big[] first = new Big[TOP + 1];
        private final Big[] second = new Big[TOP + 1];
        private final Big[] joined = new Big[TOP + 1];
        private final Big[] monic = new Big[TOP + 1];
        private final Big term = new Big();
        private final Big power = new Big();
        private final Big scale = new Big();

        Blender(Divider divider) {
            this.divider = divider;
            for (int i = 0; i <= TOP; i++) {
                first[i] = new Big();
                second[i] = new Big();
                joined[i] = new Big();
                monic[i] = new Big();
            }
        }

        /** The polynomial of all a + b (or a b), a a root of p, b one of q. */
        void blend(Poly p, Poly q, boolean sum, Poly out) {
            int n = Math.min(TOP, p.deg * q.deg);
            sumPowers(p, first, n);
            sumPowers(q, second, n);
            if (sum) {
                rescale(first, q.lead(), n);
                rescale(second, p.lead(), n);
                joinForSum(n);
            } else {
                for (int k = 0; k <= n; k++) {
                    joined[k].times(first[k], second[k]);
                }
            }
            power.times(p.lead(), q.lead());
            fromPowers(n, out);
            // what is too much in the coefficients is known, and goes before a common divisor is sought
            raise(p.lead(), n - q.deg);
            divider.divideAll(out, power);
            raise(q.lead(), n - p.deg);
            divider.divideAll(out, power);
            divider.makePrimitive(out);
        }

        /** into[k] gets the sum of the powers k of f's roots times its leading coefficient, after Newton. */
        private void sumPowers(Poly f, Big[] into, int n) {
            power.assignLong(1);
            for (int i = 1; i <= f.deg; i++) {
                monic[i].times(f.c[f.deg - i], power);
                term.times(power, f.lead());
                power.assign(term);
            }
            into[0].assignLong(f.deg);
            for (int k = 1; k <= n; k++) {
                into[k].clear();
                if (k <= f.deg) {
                    into[k].assign(monic[k]);
                    into[k].timesSmall(-k);
                }
                for (int i = 1; i < k && i <= f.deg; i++) {
                    term.times(monic[i], into[k - i]);
                    into[k].minus(into[k], term);
                }
            }
        }

        /** From the sums for some numbers to those for the numbers times by. */
        private void rescale(Big[] sums, Big by, int n) {
            if (by.isOne()) {
                return;
            }
            power.assign(by);
            for (int k = 1; k <= n; k++) {
                term.times(sums[k], power);
                sums[k].assign(term);
                term.times(power, by);
                power.assign(term);
            }
        }

        private void joinForSum(int n) {
            for (int k = 0; k <= n; k++) {
                joined[k].clear();
                int choices = 1;
                for (int i = 0; i <= k; i++) {
                    term.times(first[i], second[k - i]);
                    term.timesSmall(choices);
                    joined[k].plus(joined[k], term);
                    choices = choices * (k - i) / (i + 1);
                }
            }
        }

        /** The polynomial of the numbers whose sums of powers are joined, over the number power. */
        private void fromPowers(int n, Poly out) {
            Big[] e = monic;
            e[0].assignLong(1);
            for (int k = 1; k <= n; k++) {
                e[k].clear();
                for (int i = 1; i <= k; i++) {
                    term.times(e[k - i], joined[i]);
                    e[k].minus(e[k], term);
                }
                e[k].divideSmall(k);
            }
            scale.assignLong(1);
            for (int k = n; k >= 0; k--) {
                out.c[n - k].times(e[k], scale);
                term.times(scale, power);
                scale.assign(term);
            }
            out.deg = n;
        }

        private void raise(Big base, int k) {
            power.assignLong(1);
            for (int i = 0; i < k; i++) {
                term.times(power, base);
                power.assign(term);
            }
        }
    }

    /** Makes new numbers out of others. What it answers is written over by its next call. */
    private static final class Maker {
        private final Divider divider;
        private final Modular modular;
        private final Narrower narrower;
        private final Isolator isolator;
        private final Blender blender;
        private final Real made = new Real();
        private final Real other = new Real();
        private final Poly slope = new Poly();
        private final Poly shared = new Poly();
        private final Big low = new Big();
        private final Big high = new Big();
        private final Big unit = new Big();
        private final Big rest = new Big();
        private final Big power = new Big();

        Maker(Divider divider, Modular modular, Narrower narrower, Isolator isolator) {
            this.divider = divider;
            this.modular = modular;
            this.narrower = narrower;
            this.isolator = isolator;
            blender = new Blender(divider);
        }

        Real ratio(int p, int q) {
            made.f.c[0].assignLong(-p);
            made.f.c[1].assignLong(q);
            made.f.deg = 1;
            divider.makePrimitive(made.f);
            narrower.placeLinear(made);
            return made;
        }

        Real opposite(Real a) {
            other.assign(a);
            other.turnOver();
            return other;
        }

        /** Makes f primitive, with each of its roots only once. */
        void dropDoubles(Poly f) {
            divider.makePrimitive(f);
            if (f.deg < 2) {
                return;
            }
            slope.assignSlope(f);
            modular.common(f, slope, shared);
            if (shared.deg > 0 && divider.divides(f, shared, slope)) {
                f.assign(slope);
            }
        }

        /** The sum or the product of a and b. */
        Real join(Real a, Real b, boolean sum) {
            blender.blend(a.f, b.f, sum, made.f);
            dropDoubles(made.f);
            if (made.f.deg == 1) {
                narrower.placeLinear(made);
                return made;
            }
            made.exact = false;
            boolean placed = false;
            for (int bits = 6; bits < ENOUGH_BITS && !placed; bits += bits) {
                narrower.narrow(a, bits);
                narrower.narrow(b, bits);
                placed = isPlaced(a, b, sum, bits);
            }
            leaveZero();
            return made;
        }

        /** Whether a and b are known well enough to tell which of its polynomial's roots made is. */
        private boolean isPlaced(Real a, Real b, boolean sum, int bits) {
            if (sum) {
                spanSum(a, b);
            } else {
                spanProduct(a, b);
            }
            if (a.exact && b.exact) {
                low.assign(made.lo);
                made.becomePoint(low, made.e);
                return true;
            }
            coarsen(bits + 2);
            if (!isolator.isAlone(made)) {
                return false;
            }
            made.low = narrower.signOf(made.f, made.lo, made.e);
            return true;
        }

        private void spanSum(Real a, Real b) {
            made.e = Math.max(a.e, b.e);
            made.lo.assign(a.lo);
            made.hi.assign(a.hi);
            low.assign(b.lo);
            high.assign(b.hi);
            made.lo.shiftUp(made.e - a.e);
            made.hi.shiftUp(made.e - a.e);
            low.shiftUp(made.e - b.e);
            high.shiftUp(made.e - b.e);
            made.lo.plus(made.lo, low);
            made.hi.plus(made.hi, high);
        }

        private void spanProduct(Real a, Real b) {
            boolean aAbove = a.side() > 0;
            boolean bAbove = b.side() > 0;
            made.e = a.e + b.e;
            made.lo.times(bAbove ? a.lo : a.hi, aAbove ? b.lo : b.hi);
            made.hi.times(bAbove ? a.hi : a.lo, aAbove ? b.hi : b.lo);
        }

        /** Short ends make the tests that follow cheap. */
        private void coarsen(int e) {
            if (made.e > e) {
                made.lo.shiftDown(made.e - e);
                made.hi.shiftDownUp(made.e - e);
                made.e = e;
            }
        }

        private void leaveZero() {
            if (made.lo.signum < 0 && made.hi.signum > 0) {
                unit.clear();
                narrower.cutAt(made, unit, 0);
            }
        }

        /** 1 / a for a that is not 0. */
        Real inverse(Real a) {
            boolean below = a.side() < 0;
            other.assign(a);
            if (below) {
                other.turnOver();
            }
            other.f.dropZeroRoot();
            for (int bits = 8; bits < ENOUGH_BITS && other.lo.signum == 0; bits += bits) {
                narrower.narrow(other, bits);
            }
            other.f.turn();
            if (other.f.deg == 1) {
                narrower.placeLinear(other);
            } else {
                turnSpan();
            }
            if (below) {
                other.turnOver();
            }
            return other;
        }

        /** Rounds the inverse interval inwards, where it has no other root for sure. */
        private void turnSpan() {
            rest.minus(other.hi, other.lo);
            int e = Math.max(0, other.lo.bits() + other.hi.bits() - rest.bits() - other.e + 5);
            for (int i = 0; i < ENOUGH_BITS; i++) {
                unit.assignPower(other.e + e);
                divider.quotient(unit, other.lo, high, rest);
                divider.quotient(unit, other.hi, low, rest);
                if (rest.signum != 0) {
                    rest.assignLong(1);
                    low.plus(low, rest);
                }
                if (Big.rank(low, high) < 0 && keepTurned(e)) {
                    return;
                }
                e += 2;
            }
        }

        private boolean keepTurned(int e) {
            int atLow = narrower.signOf(other.f, low, e);
            int atHigh = narrower.signOf(other.f, high, e);
            if (atLow == 0) {
                other.becomePoint(low, e);
            } else if (atHigh == 0) {
                other.becomePoint(high, e);
            } else if (atLow != atHigh) {
                other.lo.assign(low);
                other.hi.assign(high);
                other.e = e;
                other.low = atLow;
            }
            return atLow != atHigh;
        }

        /** The k-th root of a, which is not below 0 for k = 2. */
        Real radical(Real a, int k) {
            int side = a.side();
            if (side == 0) {
                unit.clear();
                made.becomePoint(unit, 0);
                return made;
            }
            other.assign(a);
            if (side < 0) {
                other.turnOver();
            }
            other.f.dropZeroRoot();
            made.f.assignStretched(other.f, k);
            made.exact = false;
            made.e = 0;
            made.lo.clear();
            made.hi.assignPower(Math.max(0, other.hi.bits() - other.e) / k + 1);
            for (int i = 0; i < ENOUGH_BITS && !made.exact && other.f.deg > 1 && !isInside(k); i++) {
                approach(k);
            }
            if (!made.exact) {
                made.low = narrower.signOf(made.f, made.lo, made.e);
            }
            if (side < 0) {
                made.turnOver();
            }
            return made;
        }

        /** Between the powers of made's ends, other's polynomial then has no root but other. */
        private boolean isInside(int k) {
            raise(made.lo, k);
            if (narrower.rankAt(power, k * made.e, other.lo, other.e) < 0) {
                return false;
            }
            raise(made.hi, k);
            return narrower.rankAt(power, k * made.e, other.hi, other.e) <= 0;
        }

        private void approach(int k) {
            low.plus(made.lo, made.hi);
            made.alignTo(made.e + 1);
            raise(low, k);
            int side = sideOf(k * made.e);
            if (side == 0) {
                made.becomePoint(low, made.e);
            } else if (side < 0) {
                made.lo.assign(low);
            } else {
                made.hi.assign(low);
            }
        }

        /** Whether power, over 2 to the power of e, is below other, other itself, or above. */
        private int sideOf(int e) {
            if (narrower.rankAt(power, e, other.lo, other.e) <= 0) {
                return -1;
            }
            if (narrower.rankAt(power, e, other.hi, other.e) >= 0) {
                return 1;
            }
            int sign = narrower.signOf(other.f, power, e);
            return sign == 0 ? 0 : sign == other.low ? -1 : 1;
        }

        private void raise(Big base, int k) {
            power.assign(base);
            for (int i = 1; i < k; i++) {
                rest.times(power, base);
                power.assign(rest);
            }
        }
    }

    /** Tells which of two numbers is greater. */
    private static final class Order {
        private static final int TOGETHER = 2;

        private final Modular modular;
        private final Narrower narrower;
        private final Poly shared = new Poly();

        Order(Modular modular, Narrower narrower) {
            this.modular = modular;
            this.narrower = narrower;
        }

        /** -1, 0 or 1; intervals that tell unequal numbers apart are left behind. */
        int rank(Real x, Real y) {
            if (x == y) {
                return 0;
            }
            boolean known = false;
            for (int bits = 8; bits < ENOUGH_BITS; bits += bits) {
                int side = sideOf(x, y);
                if (side != TOGETHER) {
                    return side;
                }
                if (x.exact) {
                    narrower.cutAt(y, x.lo, x.e);
                } else if (y.exact) {
                    narrower.cutAt(x, y.lo, y.e);
                } else {
                    if (!known && (bits > 8 || x.f.sameAs(y.f))) {
                        known = true;
                        if (isSame(x, y)) {
                            return 0;
                        }
                    }
                    narrower.narrow(x, bits);
                    narrower.narrow(y, bits);
                }
            }
            return 0;
        }

        /** TOGETHER if the intervals have more than an end in common. */
        private int sideOf(Real x, Real y) {
            int c = narrower.rankAt(x.hi, x.e, y.lo, y.e);
            if (c == 0 && x.exact && y.exact) {
                return 0;
            }
            if (c <= 0) {
                return -1;
            }
            return narrower.rankAt(x.lo, x.e, y.hi, y.e) >= 0 ? 1 : TOGETHER;
        }

        /**
         * Whether a root of both polynomials lies in what the intervals share: it would be x, and y;
         * and as there can be no second one, it shows in the signs at the ends.
         */
        private boolean isSame(Real x, Real y) {
            if (x.f.sameAs(y.f)) {
                shared.assign(x.f);
            } else {
                modular.common(x.f, y.f, shared);
            }
            if (shared.deg < 1) {
                return false;
            }
            Real left = narrower.rankAt(x.lo, x.e, y.lo, y.e) >= 0 ? x : y;
            Real right = narrower.rankAt(x.hi, x.e, y.hi, y.e) <= 0 ? x : y;
            int atLeft = narrower.signOf(shared, left.lo, left.e);
            return atLeft != narrower.signOf(shared, right.hi, right.e);
        }
    }

    /** Writes numbers in decimal. */
    private static final class Printer {
        private static final int CHUNK = 1000000000;

        final char[] text = new char[160];
        int length = 0;

        private final Divider divider;
        private final Narrower narrower;
        private final Poly scaled = new Poly();
        private final Big scale = new Big();
        private final Big power = new Big();
        private final Big term = new Big();
        private final Big low = new Big();
        private final Big high = new Big();
        private final Big one = new Big();

        Printer(Divider divider, Narrower narrower) {
            this.divider = divider;
            this.narrower = narrower;
            one.assignLong(1);
        }

        /** Writes x times 10 to the power of k, rounded down: the number of characters. */
        int write(Real x, int k) {
            scale.assignLong(1);
            for (int i = 0; i < k; i++) {
                scale.timesSmall(10);
            }
            if (x.f.deg == 1) {
                term.times(x.f.c[0], scale);
                term.flip();
                divider.quotientDown(term, x.f.c[1], low, high);
            } else {
                narrower.narrow(x, k * 10 / 3 + 2);
                roundDown(x);
            }
            writeDigits();
            return length;
        }

        /** Leaves x times scale, rounded down, in low. */
        private void roundDown(Real x) {
            low.times(x.lo, scale);
            low.shiftDown(x.e);
            if (x.exact) {
                return;
            }
            high.times(x.hi, scale);
            high.shiftDownUp(x.e);
            high.minus(high, one);
            if (Big.rank(low, high) < 0) {
                scalePoly(x.f);
            }
            for (int i = 0; i < ENOUGH_BITS && Big.rank(low, high) < 0; i++) {
                term.plus(low, high);
                term.plus(term, one);
                term.shiftDown(1);
                int sign = narrower.signOf(scaled, term, 0);
                if (sign == 0 || sign == x.low) {
                    low.assign(term);
                }
                if (sign != x.low) {
                    high.minus(term, one);
                }
            }
        }

        /** Its roots are those of f times scale. */
        private void scalePoly(Poly f) {
            scaled.assign(f);
            power.assign(scale);
            for (int i = f.deg - 1; i >= 0; i--) {
                scaled.c[i].times(f.c[i], power);
                term.times(power, scale);
                power.assign(term);
            }
        }

        private void writeDigits() {
            boolean below = low.signum < 0;
            length = 0;
            do {
                int chunk = low.divideSmall(CHUNK);
                boolean last = low.signum == 0;
                for (int i = 0; i < 9 && (i == 0 || !last || chunk > 0) && length < text.length - 1; i++) {
                    text[length++] = (char) ('0' + chunk % 10);
                    chunk /= 10;
                }
            } while (low.signum != 0 && length < text.length - 1);
            if (below) {
                text[length++] = '-';
            }
            for (int i = 0, j = length - 1; i < j; i++, j--) {
                char c = text[i];
                text[i] = text[j];
                text[j] = c;
            }
        }
    }
}
