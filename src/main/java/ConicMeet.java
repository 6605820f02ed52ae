/**
 * Where curves of the second degree in the plane meet: a system of polynomials in x and y, its reduced
 * basis, the algebra of remainders and the trace forms that count its zeros, all in exact numbers.
 */
public final class ConicMeet {
    public static final int NONE = -1;
    public static final long HUGE = Long.MIN_VALUE;

    private static final int WORK_LIMIT = 40;
    private static final int LARGEST = 5;
    private static final int NO_ZEROS = 0;
    private static final int FINITE = 1;
    private static final int INFINITE = 2;

    private final Problem now;
    private final Problem answered;
    private final Desk desk;
    private final Ideal ideal;
    private final Algebra algebra;
    private int worked;
    private int answer;

    public ConicMeet() {
        Desk shared = new Desk();
        now = new Problem();
        answered = new Problem();
        desk = shared;
        ideal = new Ideal(shared);
        algebra = new Algebra(shared);
        worked = 0;
        answer = NONE;
    }

    public void clear() {
        now.empty();
    }

    public int start() {
        return now.open();
    }

    public int term(int polynomial, int a, int b, int c)
            throws IndexOutOfBoundsException, IllegalArgumentException {
        if (!now.has(polynomial)) {
            throw new IndexOutOfBoundsException();
        }
        return raise(polynomial, a, b, c);
    }

    public int query(int a, int b, int c) throws IllegalArgumentException {
        return raise(Problem.QUERY, a, b, c);
    }

    private int raise(int polynomial, int a, int b, int c) {
        int place = Order.place(a, b, 2);
        if (place == NONE) {
            throw new IllegalArgumentException();
        }
        long sum = (long) now.read(polynomial, place) + (long) c;
        if (sum < -LARGEST || sum > LARGEST) {
            throw new IllegalArgumentException();
        }
        now.write(polynomial, place, (int) sum);
        return (int) sum;
    }

    public int solve() {
        if (answer != NONE && now.same(answered)) {
            return answer;
        }
        if (worked >= WORK_LIMIT) {
            return NONE;
        }
        worked++;
        answered.copy(now);
        ideal.build(answered);
        answer = ideal.isWhole() ? NO_ZEROS : ideal.isFinite() ? FINITE : INFINITE;
        if (answer != INFINITE) {
            algebra.build(ideal, answered);
        }
        return answer;
    }

    private boolean isFinite() {
        return answer == NO_ZEROS || answer == FINITE;
    }

    public int complex() {
        return isFinite() ? algebra.breadth(0) : NONE;
    }

    public int real(int sign) {
        if (!isFinite()) {
            return NONE;
        }
        int all = algebra.balance(0);
        int apart = algebra.balance(2);
        switch (sign) {
            case 2:
                return all;
            case 1:
                return (apart + algebra.balance(1)) / 2;
            case 0:
                return all - apart;
            case -1:
                return (apart - algebra.balance(1)) / 2;
            default:
                return NONE;
        }
    }

    public int elements() {
        return answer == NONE ? NONE : ideal.size();
    }

    public int lead(int k) {
        int place = answer == NONE ? NONE : ideal.top(k);
        return place == NONE ? NONE : Order.told(place);
    }

    public long coefficient(int k, int a, int b, int what) {
        if (answer == NONE || what < 0 || what > 1) {
            return NONE;
        }
        int top = ideal.top(k);
        int place = Order.place(a, b, 3);
        if (top == NONE || place == NONE) {
            return what == 0 ? 0 : 1;
        }
        return desk.tell(ideal.part(top, place), ideal.part(top, top), what);
    }

    public int standard() {
        return isFinite() ? algebra.size() : NONE;
    }

    public int monomial(int i) {
        int place = isFinite() ? algebra.place(i) : NONE;
        return place == NONE ? NONE : Order.told(place);
    }

    public long table(int of, int i, int j, int what) {
        return isFinite() ? entry(algebra.multiplier(of), i, j, what) : NONE;
    }

    public long form(int e, int i, int j, int what) {
        return isFinite() ? entry(algebra.trace(e), i, j, what) : NONE;
    }

    private long entry(Grid grid, int i, int j, int what) {
        int size = algebra.size();
        if (grid == null || i < 0 || i >= size || j < 0 || j >= size || what < 0 || what > 1) {
            return NONE;
        }
        return desk.tell(grid.read(i, j), grid.under, what);
    }

    public int rank(int e) {
        return isFinite() ? algebra.breadth(e) : NONE;
    }

    public int signature(int e) throws IllegalArgumentException, IllegalStateException {
        if (e < 0 || e >= Algebra.FORMS) {
            throw new IllegalArgumentException();
        }
        if (!isFinite()) {
            throw new IllegalStateException();
        }
        return algebra.balance(e);
    }

    public long remainder(int i, int what) {
        // b_0 is 1, so column 0 of the query's table is the query's own remainder
        return isFinite() ? entry(algebra.multiplier(2), i, 0, what) : NONE;
    }

    public int member() {
        if (answer == NONE) {
            return NONE;
        }
        return ideal.hasQuery() ? 1 : 0;
    }

    public int count(int what) {
        switch (what) {
            case 0:
                return now.size();
            case 1:
                return worked;
            case 2:
                return answer;
            default:
                return NONE;
        }
    }

    public int at(int polynomial, int a, int b) {
        int place = Order.place(a, b, 2);
        if (place == NONE) {
            return 0;
        }
        if (polynomial == NONE) {
            return now.read(Problem.QUERY, place);
        }
        return now.has(polynomial) ? now.read(polynomial, place) : 0;
    }

    /** Monomials by their place in the order: 1, y, x, yy, xy, xx, yyy, xyy, xxy, xxx. */
    private static final class Order {
        static final int UP_TO_1 = 3;
        static final int UP_TO_2 = 6;
        static final int UP_TO_3 = 10;

        static int place(int a, int b, int degree) {
            if (a < 0 || b < 0 || a > degree || b > degree - a) {
                return NONE;
            }
            return first(a + b) + a;
        }

        /** The place of the lowest monomial of a degree. */
        static int first(int degree) {
            return degree * (degree + 1) / 2;
        }

        static int degree(int place) {
            if (place < 1) {
                return 0;
            }
            return place < UP_TO_1 ? 1 : place < UP_TO_2 ? 2 : 3;
        }

        static int powerOfX(int place) {
            return place - first(degree(place));
        }

        static int powerOfY(int place) {
            return degree(place) - powerOfX(place);
        }

        static int timesX(int place) {
            return place + degree(place) + 2;
        }

        static int timesY(int place) {
            return place + degree(place) + 1;
        }

        static int told(int place) {
            return 16 * powerOfX(place) + powerOfY(place);
        }
    }

    /** A system and its query, as whole coefficients by the monomials' places. */
    private static final class Problem {
        static final int LIMIT = 4;
        static final int QUERY = LIMIT;

        private final int[][] coefficients = new int[LIMIT + 1][Order.UP_TO_2];
        private int used = 0;

        void empty() {
            for (int k = 0; k <= LIMIT; k++) {
                wipe(k);
            }
            used = 0;
        }

        private void wipe(int polynomial) {
            for (int place = 0; place < Order.UP_TO_2; place++) {
                write(polynomial, place, 0);
            }
        }

        int size() {
            return used;
        }

        boolean has(int polynomial) {
            return polynomial >= 0 && polynomial < used;
        }

        int open() {
            if (used >= LIMIT) {
                return NONE;
            }
            used++;
            return used - 1;
        }

        private boolean holds(int polynomial, int place) {
            return polynomial >= 0 && polynomial <= LIMIT && place >= 0 && place < Order.UP_TO_2;
        }

        int read(int polynomial, int place) {
            return holds(polynomial, place) ? coefficients[polynomial][place] : 0;
        }

        void write(int polynomial, int place, int value) {
            if (holds(polynomial, place)) {
                coefficients[polynomial][place] = value;
            }
        }

        void copy(Problem other) {
            for (int k = 0; k <= LIMIT; k++) {
                for (int place = 0; place < Order.UP_TO_2; place++) {
                    write(k, place, other.read(k, place));
                }
            }
            used = other.used;
        }

        boolean same(Problem other) {
            if (used != other.used) {
                return false;
            }
            for (int k = 0; k <= LIMIT; k++) {
                for (int place = 0; place < Order.UP_TO_2; place++) {
                    if (read(k, place) != other.read(k, place)) {
                        return false;
                    }
                }
            }
            return true;
        }
    }

    /**
     * A whole number, changed in place: a sign and limbs of 31 bits, the lowest first. 31 bits and not 32, so
     * that every product and every pair of limbs is a long that is not below 0.
     */
    private static final class Whole {
        // In limbs. No number has more than some 1,610 bits, and only those of a desk or of an Inertia more than some
        // 810 (see NOTES.md): the others have less room, so that an object stays small.
        static final int WIDE = 64;
        static final int NARROW = 32;
        static final int BITS = 31;
        static final long BASE = 1L << BITS;
        static final int MASK = 0x7fffffff;

        final int[] limbs;
        int used = 0;
        int sign = 0;

        Whole(int room) {
            limbs = new int[Math.max(room, 0)];
        }

        boolean isZero() {
            return sign == 0;
        }

        boolean isOne() {
            return sign == 1 && used == 1 && limbs.length > 0 && limbs[0] == 1;
        }

        void set(long value) {
            long rest = value;
            used = 0;
            sign = value > 0 ? 1 : value < 0 ? -1 : 0;
            for (int i = 0; i < 3 && i < limbs.length && rest != 0; i++) {
                long limb = rest % BASE;
                limbs[i] = (int) (limb < 0 ? -limb : limb);
                rest /= BASE;
                used = i + 1;
            }
        }

        void copy(Whole other) {
            used = other.used < limbs.length ? other.used : limbs.length;
            for (int i = 0; i < used && i < limbs.length && i < other.limbs.length; i++) {
                limbs[i] = other.limbs[i];
            }
            sign = other.sign;
        }

        void turn() {
            sign = -sign;
        }

        void unsign() {
            sign = sign < 0 ? -sign : sign;
        }

        /** Whether it is in -(2^63 - 1) .. 2^63 - 1. */
        boolean isLong() {
            return used < 3 || used == 3 && limbs.length > 2 && limbs[2] == 1;
        }

        long toLong() {
            long value = 0;
            for (int i = 2; i >= 0; i--) {
                value = (value << BITS) | (i < used && i < limbs.length ? limbs[i] : 0);
            }
            return sign < 0 ? -value : value;
        }

        int compareSize(Whole other) {
            if (used != other.used) {
                return used < other.used ? -1 : 1;
            }
            for (int i = used - 1; i >= 0 && i < limbs.length && i < other.limbs.length; i--) {
                if (limbs[i] != other.limbs[i]) {
                    return limbs[i] < other.limbs[i] ? -1 : 1;
                }
            }
            return 0;
        }

        /** Adds the other one (way 1) or takes it away (way -1). */
        void add(Whole other, int way) {
            int otherSign = way < 0 ? -other.sign : other.sign;
            if (otherSign == 0) {
                return;
            }
            if (sign == 0) {
                copy(other);
                sign = otherSign;
            } else if (sign == otherSign) {
                widen(other);
            } else if (compareSize(other) >= 0) {
                setGap(this, other);
            } else {
                setGap(other, this);
                sign = otherSign;
            }
        }

        private void widen(Whole other) {
            int longer = used < other.used ? other.used : used;
            int length = longer < limbs.length ? longer : limbs.length;
            long carry = 0;
            for (int i = 0; i < length && i < limbs.length; i++) {
                long mine = i < used ? limbs[i] : 0;
                long others = i < other.used && i < other.limbs.length ? other.limbs[i] : 0;
                long sum = mine + others + carry;
                limbs[i] = (int) (sum & MASK);
                carry = sum >> BITS;
            }
            if (carry != 0 && length < limbs.length) {
                limbs[length] = (int) carry;
                length++;
            }
            used = length;
        }

        /** The size becomes that of the large one less that of the small one; one of the two may be this. */
        private void setGap(Whole large, Whole small) {
            int length = large.used < limbs.length ? large.used : limbs.length;
            int shorter = small.used < small.limbs.length ? small.used : small.limbs.length;
            long borrow = 0;
            for (int i = 0; i < length && i < limbs.length && i < large.limbs.length; i++) {
                long gap = (long) large.limbs[i] - (i < shorter ? small.limbs[i] : 0) - borrow;
                borrow = gap < 0 ? 1 : 0;
                limbs[i] = (int) (gap & MASK);
            }
            // trimmed here and not by trim(), which would be a call too deep
            while (length > 0 && length <= limbs.length && limbs[length - 1] == 0) {
                length--;
            }
            used = length;
            sign = length == 0 ? 0 : sign;
        }

        /** Becomes the product of two others. */
        void setProduct(Whole a, Whole b) {
            used = Math.min(a.used + b.used, limbs.length);
            sign = a.sign * b.sign;
            for (int i = 0; i < used && i < limbs.length; i++) {
                limbs[i] = 0;
            }
            for (int i = 0; i < a.used && i < a.limbs.length; i++) {
                long factor = a.limbs[i];
                long carry = 0;
                for (int j = 0; j < b.used && j < b.limbs.length && i + j < limbs.length; j++) {
                    long sum = factor * b.limbs[j] + limbs[i + j] + carry;
                    limbs[i + j] = (int) (sum & MASK);
                    carry = sum >> BITS;
                }
                if (i + b.used < limbs.length) {
                    limbs[i + b.used] = (int) carry;
                }
            }
            trim();
        }

        /** How far its highest limb is from having its highest bit. */
        int slack() {
            int shift = 0;
            if (used > 0 && used <= limbs.length) {
                int top = limbs[used - 1];
                while (shift < BITS - 1 && ((top << shift) & (1 << (BITS - 1))) == 0) {
                    shift++;
                }
            }
            return shift;
        }

        void shiftUp(int bits) {
            long carry = 0;
            for (int i = 0; i < used && i < limbs.length; i++) {
                long wide = ((long) limbs[i] << bits) | carry;
                limbs[i] = (int) (wide & MASK);
                carry = wide >> BITS;
            }
            if (carry != 0 && used < limbs.length) {
                limbs[used] = (int) carry;
                used++;
            }
        }

        void shiftDown(int bits) {
            long above = 0;
            for (int i = used - 1; i >= 0 && i < limbs.length; i--) {
                long wide = (above << BITS) | limbs[i];
                limbs[i] = (int) ((wide >> bits) & MASK);
                above = wide & ((1L << bits) - 1);
            }
        }

        void trim() {
            while (used > 0 && used <= limbs.length && limbs[used - 1] == 0) {
                used--;
            }
            if (used == 0) {
                sign = 0;
            }
        }
    }

    /** What works on whole numbers with others to write on. One desk serves all, one work at a time. */
    private static final class Desk {
        private static final int STEPS = 1000000;

        private final Whole first = new Whole(Whole.WIDE);
        private final Whole second = new Whole(Whole.WIDE);
        private final Whole scaled = new Whole(Whole.WIDE);
        private final Whole quotient = new Whole(Whole.WIDE);
        private final Whole rest = new Whole(Whole.WIDE);
        private final Whole common = new Whole(Whole.WIDE);
        private final Whole left = new Whole(Whole.WIDE);
        private final Whole right = new Whole(Whole.WIDE);
        private final Whole product = new Whole(Whole.WIDE);
        private final Whole over = new Whole(Whole.WIDE);

        /** Adds a b to the sum (way 1) or takes it away (way -1). */
        void addProduct(Whole sum, Whole a, Whole b, int way) {
            if (!a.isZero() && !b.isZero()) {
                product.setProduct(a, b);
                sum.add(product, way);
            }
        }

        /** What the dividend leaves stays in it, the quotient goes into another; both are not below 0. */
        private void divide(Whole dividend, Whole by, Whole into) {
            into.set(0);
            if (by.isZero() || dividend.compareSize(by) < 0) {
                return;
            }
            into.sign = 1;
            if (by.used == 1 && by.limbs.length > 0) {
                into.used = dividend.used;
                dividend.set(divideShort(dividend, by.limbs[0], into));
                into.trim();
                return;
            }
            int slack = by.slack();
            scaled.copy(by);
            scaled.shiftUp(slack);
            dividend.shiftUp(slack);
            into.used = dividend.used - scaled.used + 1;
            if (dividend.used < dividend.limbs.length) {
                // one limb more, which the first guess reads
                dividend.limbs[dividend.used] = 0;
            }
            for (int at = into.used - 1; at >= 0 && at < into.limbs.length; at--) {
                long guess = guess(dividend, at);
                if (lessen(dividend, at, guess) < 0) {
                    guess--;
                    restore(dividend, at);
                }
                into.limbs[at] = (int) guess;
            }
            into.trim();
            dividend.used = scaled.used;
            dividend.shiftDown(slack);
            dividend.trim();
        }

        /** The quotient's limbs by a divisor of one limb; what is left is answered. */
        private long divideShort(Whole dividend, int by, Whole into) {
            long left = 0;
            for (int i = dividend.used - 1; i >= 0 && i < dividend.limbs.length && by > 0; i--) {
                long wide = (left << Whole.BITS) | dividend.limbs[i];
                if (i < into.limbs.length) {
                    into.limbs[i] = (int) (wide / by);
                }
                left = wide % by;
            }
            return left;
        }

        /** The limb of the quotient at a place, or one more than it. */
        private long guess(Whole dividend, int at) {
            int length = scaled.used;
            int high = at + length;
            if (length < 2 || length > scaled.limbs.length || at < 0 || high >= dividend.limbs.length) {
                return 0;
            }
            long top = scaled.limbs[length - 1];
            long next = scaled.limbs[length - 2];
            if (top == 0) {
                return 0;
            }
            long wide = ((long) dividend.limbs[high] << Whole.BITS) | dividend.limbs[high - 1];
            long guess = wide / top;
            long left = wide % top;
            for (int k = 0; k < 3 && left < Whole.BASE; k++) {
                long seen = (left << Whole.BITS) | dividend.limbs[high - 2];
                if (guess < Whole.BASE && guess * next <= seen) {
                    break;
                }
                guess--;
                left += top;
            }
            return guess;
        }

        /**
         * Takes the guess times the divisor away at a place; below 0 if that was too much. The highest limb is not
         * read again, so it is left as it is.
         */
        private long lessen(Whole dividend, int at, long guess) {
            int length = scaled.used;
            long carry = 0;
            for (int i = 0; i < length && at + i < dividend.limbs.length && i < scaled.limbs.length; i++) {
                long gap = dividend.limbs[at + i] - guess * scaled.limbs[i] + carry;
                dividend.limbs[at + i] = (int) (gap & Whole.MASK);
                carry = gap >> Whole.BITS;
            }
            int high = at + length;
            return high < dividend.limbs.length ? dividend.limbs[high] + carry : 0;
        }

        private void restore(Whole dividend, int at) {
            int length = scaled.used;
            long carry = 0;
            for (int i = 0; i < length && at + i < dividend.limbs.length && i < scaled.limbs.length; i++) {
                long sum = (long) dividend.limbs[at + i] + scaled.limbs[i] + carry;
                dividend.limbs[at + i] = (int) (sum & Whole.MASK);
                carry = sum >> Whole.BITS;
            }
        }

        /** The greatest common divisor, on one of the desk's own numbers: good until the next one. */
        private Whole divisor(Whole a, Whole b) {
            first.copy(a);
            first.unsign();
            second.copy(b);
            second.unsign();
            Whole high = first;
            Whole low = second;
            for (int step = 0; step < STEPS && !low.isZero(); step++) {
                if (high.used < 3 && low.used < 3) {
                    high.set(longDivisor(high.toLong(), low.toLong()));
                    return high;
                }
                divide(high, low, quotient);
                Whole kept = high;
                high = low;
                low = kept;
            }
            return high;
        }

        private long longDivisor(long a, long b) {
            long high = a;
            long low = b;
            for (int step = 0; step < STEPS && low != 0; step++) {
                long kept = high % low;
                high = low;
                low = kept;
            }
            return high;
        }

        /** Divides by a positive number that leaves nothing. */
        private void share(Whole number, Whole by) {
            if (number.isZero() || by.isOne()) {
                return;
            }
            int sign = number.sign;
            rest.copy(number);
            rest.unsign();
            divide(rest, by, number);
            if (sign < 0) {
                number.turn();
            }
        }

        /** Divides numbers by all that they have in common. */
        void simplify(Whole[] numbers) {
            common.set(0);
            for (int k = 0; k < numbers.length && !common.isOne(); k++) {
                if (!numbers[k].isZero()) {
                    common.copy(divisor(common, numbers[k]));
                }
            }
            if (common.isZero() || common.isOne()) {
                return;
            }
            for (int k = 0; k < numbers.length; k++) {
                share(numbers[k], common);
            }
        }

        /** Rids numbers of the one at a place by a multiple of others, whose own there is above 0. */
        void eliminate(Whole[] numbers, Whole[] others, int place) {
            if (place < 0 || place >= numbers.length || numbers.length != others.length) {
                return;
            }
            left.copy(others[place]);
            right.copy(numbers[place]);
            common.copy(divisor(left, right));
            share(left, common);
            share(right, common);
            for (int k = 0; k < numbers.length; k++) {
                over.set(0);
                addProduct(over, numbers[k], left, 1);
                addProduct(over, others[k], right, -1);
                numbers[k].copy(over);
            }
        }

        /** Makes a number the lowest common multiple of itself and another one, both above 0. */
        void spread(Whole number, Whole other) {
            common.copy(divisor(number, other));
            share(number, common);
            multiply(number, other);
        }

        void multiply(Whole number, Whole by) {
            product.setProduct(number, by);
            number.copy(product);
        }

        /** Becomes a times how often the one number is in the other. */
        void setShare(Whole number, Whole a, Whole one, Whole other) {
            left.copy(other);
            share(left, one);
            number.setProduct(a, left);
        }

        /** The numerator (what 0) or the denominator of a fraction, whose denominator is above 0. */
        long tell(Whole above, Whole under, int what) {
            common.copy(divisor(above, under));
            left.copy(above);
            share(left, common);
            right.copy(under);
            share(right, common);
            if (!left.isLong() || !right.isLong()) {
                return HUGE;
            }
            return what == 0 ? left.toLong() : right.toLong();
        }
    }

    /** Whole numbers in four rows of four over one denominator. */
    private static final class Grid {
        static final int SIDE = 4;

        final Whole[] cells = new Whole[SIDE * SIDE];
        final Whole under;

        Grid(int room) {
            for (int k = 0; k < cells.length; k++) {
                cells[k] = new Whole(room);
            }
            under = new Whole(room);
            under.set(1);
        }

        Whole read(int i, int j) {
            int k = SIDE * i + j;
            return k < 0 || k >= cells.length ? under : cells[k];
        }

        void wipe() {
            for (int k = 0; k < cells.length; k++) {
                cells[k].set(0);
            }
        }

        void take(Grid other) {
            for (int k = 0; k < cells.length; k++) {
                cells[k].copy(other.cells[k]);
            }
            under.copy(other.under);
        }
    }

    /** Whole numbers in a row. */
    private static final class Row {
        final Whole[] cells;

        Row(int length) {
            cells = new Whole[Math.max(length, 0)];
            for (int k = 0; k < cells.length; k++) {
                cells[k] = new Whole(Whole.NARROW);
            }
        }

        void wipe() {
            for (int k = 0; k < cells.length; k++) {
                cells[k].set(0);
            }
        }

        void take(Row other) {
            for (int k = 0; k < cells.length && k < other.cells.length; k++) {
                cells[k].copy(other.cells[k]);
            }
        }

        void turnAll() {
            for (int k = 0; k < cells.length; k++) {
                cells[k].turn();
            }
        }
    }

    /**
     * All polynomials of degree 3 at most of an ideal that polynomials of degree 2 at most make: rows of whole
     * coefficients, each in the place of its lead. Degree 3 is enough for curves of degree 2 (see NOTES.md).
     */
    private static final class Ideal {
        private static final int PLACES = Order.UP_TO_3;

        private final Desk desk;
        private final Row[] rows = new Row[PLACES];
        private final boolean[] filled = new boolean[PLACES];
        private final boolean[] grown = new boolean[Order.UP_TO_2];
        private final Row work = new Row(PLACES);
        private final Whole nothing = new Whole(Whole.NARROW);
        private boolean queryInside = false;

        Ideal(Desk shared) {
            desk = shared;
            for (int k = 0; k < PLACES; k++) {
                rows[k] = new Row(PLACES);
            }
        }

        void build(Problem problem) {
            for (int k = 0; k < PLACES; k++) {
                filled[k] = false;
            }
            for (int k = 0; k < Order.UP_TO_2; k++) {
                grown[k] = false;
            }
            for (int k = 0; k < problem.size(); k++) {
                load(problem, k);
                insert();
            }
            for (int step = 0; step < Order.UP_TO_2; step++) {
                int k = lowestToGrow();
                if (k < 0 || k >= Order.UP_TO_2) {
                    break;
                }
                grown[k] = true;
                loadMultiple(k, false);
                insert();
                loadMultiple(k, true);
                insert();
            }
            load(problem, Problem.QUERY);
            queryInside = reduce() == NONE;
        }

        private void load(Problem problem, int polynomial) {
            work.wipe();
            for (int place = 0; place < Order.UP_TO_2; place++) {
                work.cells[place].set(problem.read(polynomial, place));
            }
        }

        private int lowestToGrow() {
            for (int k = 0; k < Order.UP_TO_2; k++) {
                if (filled[k] && !grown[k]) {
                    return k;
                }
            }
            return NONE;
        }

        /** x times or y times a row of degree 2 at most. */
        private void loadMultiple(int k, boolean byX) {
            work.wipe();
            for (int place = 0; place < Order.UP_TO_2; place++) {
                int to = byX ? Order.timesX(place) : Order.timesY(place);
                if (to >= 0 && to < PLACES && isLead(k)) {
                    work.cells[to].copy(rows[k].cells[place]);
                }
            }
        }

        /**
         * Puts what the rows leave of the work row, if that is not 0, among them, and rids them of its lead: no row
         * ever has another one's lead, which keeps the numbers short.
         */
        private void insert() {
            int top = reduce();
            if (top < 0 || top >= PLACES) {
                return;
            }
            desk.simplify(work.cells);
            rows[top].take(work);
            if (rows[top].cells[top].sign < 0) {
                rows[top].turnAll();
            }
            filled[top] = true;
            for (int k = top + 1; k < PLACES; k++) {
                if (filled[k] && !rows[k].cells[top].isZero()) {
                    desk.eliminate(rows[k].cells, rows[top].cells, top);
                    desk.simplify(rows[k].cells);
                }
            }
        }

        /** Rids the work row of all leads: the highest place at which something is left. */
        private int reduce() {
            int top = NONE;
            for (int place = PLACES - 1; place >= 0; place--) {
                if (work.cells[place].isZero()) {
                    continue;
                }
                if (filled[place]) {
                    desk.eliminate(work.cells, rows[place].cells, place);
                    desk.simplify(work.cells);
                } else if (top == NONE) {
                    top = place;
                }
            }
            return top;
        }

        boolean isLead(int place) {
            return place >= 0 && place < PLACES && filled[place];
        }

        boolean isWhole() {
            return filled[0];
        }

        /** No monomial of degree 3 is standard just if finitely many are. */
        boolean isFinite() {
            for (int k = Order.UP_TO_2; k < PLACES; k++) {
                if (!filled[k]) {
                    return false;
                }
            }
            return true;
        }

        boolean hasQuery() {
            return queryInside;
        }

        /** Whether a lead is no multiple of another one. */
        private boolean isElement(int place) {
            int a = Order.powerOfX(place);
            int b = Order.powerOfY(place);
            return isLead(place) && !isLead(Order.place(a - 1, b, 3)) && !isLead(Order.place(a, b - 1, 3));
        }

        int size() {
            int elements = 0;
            for (int place = 0; place < PLACES; place++) {
                if (isElement(place)) {
                    elements++;
                }
            }
            return elements;
        }

        /** The place of the lead of the k-th element. */
        int top(int k) {
            int ahead = 0;
            for (int place = 0; place < PLACES; place++) {
                if (isElement(place)) {
                    if (ahead == k) {
                        return place;
                    }
                    ahead++;
                }
            }
            return NONE;
        }

        /** The number at a place of the row of a lead. */
        Whole part(int top, int place) {
            boolean held = isLead(top) && place >= 0 && place < PLACES;
            return held ? rows[top].cells[place] : nothing;
        }
    }

    /** The algebra of remainders of an ideal with finitely many zeros: its tables and its trace forms. */
    private static final class Algebra {
        static final int FORMS = 3;
        private static final int SIDE = Grid.SIDE;

        private final Desk desk;
        private final Inertia inertia;
        private final int[] places = new int[SIDE];
        private int size = 0;
        private final Grid[] multipliers = new Grid[FORMS];
        private final Grid[] products = new Grid[SIDE];
        private final Grid[] traces = new Grid[FORMS];
        private final Row[] weights = new Row[FORMS];
        private final Row from = new Row(SIDE);
        private final Row into = new Row(SIDE);
        private final Whole scale = new Whole(Whole.NARROW);
        private final Whole square = new Whole(Whole.NARROW);
        private final int[] breadths = new int[FORMS];
        private final int[] balances = new int[FORMS];

        Algebra(Desk shared) {
            desk = shared;
            inertia = new Inertia(shared);
            for (int k = 0; k < FORMS; k++) {
                multipliers[k] = new Grid(Whole.NARROW);
                traces[k] = new Grid(Whole.NARROW);
                weights[k] = new Row(SIDE);
            }
            for (int k = 0; k < SIDE; k++) {
                products[k] = new Grid(Whole.NARROW);
            }
        }

        int size() {
            return size;
        }

        int place(int i) {
            return i < 0 || i >= size || i >= SIDE ? NONE : places[i];
        }

        Grid multiplier(int of) {
            return of < 0 || of >= FORMS ? null : multipliers[of];
        }

        Grid trace(int e) {
            return e < 0 || e >= FORMS ? null : traces[e];
        }

        int breadth(int e) {
            return e < 0 || e >= FORMS ? NONE : breadths[e];
        }

        int balance(int e) {
            return e < 0 || e >= FORMS ? 0 : balances[e];
        }

        void build(Ideal ideal, Problem problem) {
            choose(ideal);
            findScale(ideal);
            multiplyByVariable(ideal, 0);
            multiplyByVariable(ideal, 1);
            multiplyByStandard();
            multiplyByQuery(problem);
            weigh();
            for (int e = 0; e < FORMS; e++) {
                fillTrace(e);
                inertia.measure(traces[e], size);
                breadths[e] = inertia.breadth;
                balances[e] = inertia.balance;
            }
        }

        private void choose(Ideal ideal) {
            size = 0;
            for (int place = 0; place < Order.UP_TO_2; place++) {
                if (!ideal.isLead(place) && size < SIDE) {
                    places[size] = place;
                    size++;
                }
            }
        }

        private int product(int of, int j) {
            return of == 0 ? Order.timesX(place(j)) : Order.timesY(place(j));
        }

        /** One denominator for the remainders of x and y times all standard monomials. */
        private void findScale(Ideal ideal) {
            scale.set(1);
            for (int of = 0; of < 2; of++) {
                for (int j = 0; j < size; j++) {
                    int place = product(of, j);
                    if (ideal.isLead(place)) {
                        desk.spread(scale, ideal.part(place, place));
                    }
                }
            }
            square.setProduct(scale, scale);
        }

        private void multiplyByVariable(Ideal ideal, int of) {
            Grid grid = multipliers[of];
            grid.wipe();
            grid.under.copy(scale);
            for (int j = 0; j < size; j++) {
                int place = product(of, j);
                for (int i = 0; i < size; i++) {
                    Whole cell = grid.read(i, j);
                    if (ideal.isLead(place)) {
                        desk.setShare(cell, ideal.part(place, place(i)), ideal.part(place, place), scale);
                        cell.turn();
                    } else if (place == place(i)) {
                        cell.copy(scale);
                    }
                }
            }
        }

        /** Into: the remainder of a monomial of degree 2 at most times b_j, over the square of the scale. */
        private void carry(int place, int j) {
            int degree = Order.degree(place);
            int a = Order.powerOfX(place);
            into.wipe();
            if (j < 0 || j >= SIDE) {
                return;
            }
            if (degree == 0) {
                into.cells[j].copy(square);
            } else if (degree == 1) {
                into.cells[j].copy(scale);
            } else {
                into.cells[j].set(1);
            }
            for (int step = 0; step < degree && step < 2; step++) {
                from.take(into);
                times(multipliers[step < a ? 0 : 1]);
            }
        }

        /** Into: the grid times from. */
        private void times(Grid grid) {
            into.wipe();
            for (int i = 0; i < size && i < SIDE; i++) {
                for (int j = 0; j < size && j < SIDE; j++) {
                    desk.addProduct(into.cells[i], grid.read(i, j), from.cells[j], 1);
                }
            }
        }

        private void multiplyByStandard() {
            for (int k = 0; k < size && k < SIDE; k++) {
                products[k].wipe();
                products[k].under.copy(square);
                for (int j = 0; j < size; j++) {
                    carry(place(k), j);
                    for (int i = 0; i < size && i < SIDE; i++) {
                        products[k].read(i, j).copy(into.cells[i]);
                    }
                }
            }
        }

        private void multiplyByQuery(Problem problem) {
            Grid grid = multipliers[2];
            grid.wipe();
            grid.under.copy(square);
            for (int place = 0; place < Order.UP_TO_2; place++) {
                int factor = problem.read(Problem.QUERY, place);
                for (int j = 0; j < size && factor != 0; j++) {
                    carry(place, j);
                    from.cells[0].set(factor);
                    for (int i = 0; i < size && i < SIDE; i++) {
                        desk.addProduct(grid.read(i, j), into.cells[i], from.cells[0], 1);
                    }
                }
            }
        }

        /** The traces of the tables of h to the e times each b_k, all but their denominators. */
        private void weigh() {
            weights[0].wipe();
            for (int k = 0; k < size && k < SIDE; k++) {
                for (int j = 0; j < size; j++) {
                    weights[0].cells[k].add(products[k].read(j, j), 1);
                }
            }
            for (int e = 1; e < FORMS; e++) {
                weights[e].wipe();
                for (int i = 0; i < size && i < SIDE; i++) {
                    for (int j = 0; j < size && j < SIDE; j++) {
                        Whole cell = multipliers[2].read(i, j);
                        desk.addProduct(weights[e].cells[j], weights[e - 1].cells[i], cell, 1);
                    }
                }
            }
        }

        private void fillTrace(int e) {
            Grid grid = traces[e];
            grid.wipe();
            for (int i = 0; i < size && i < SIDE; i++) {
                for (int j = i; j < size && j < SIDE; j++) {
                    for (int k = 0; k < size && k < SIDE; k++) {
                        desk.addProduct(grid.read(i, j), weights[e].cells[k], products[i].read(k, j), 1);
                    }
                    if (i < j) {
                        grid.read(j, i).copy(grid.read(i, j));
                    }
                }
            }
            grid.under.set(1);
            for (int factor = 0; factor < e + 2; factor++) {
                desk.multiply(grid.under, square);
            }
        }
    }

    /** Rank and signature of a symmetric grid: square after square is split off. */
    private static final class Inertia {
        private static final int SIDE = Grid.SIDE;

        private final Desk desk;
        private final Grid work = new Grid(Whole.WIDE);
        private final boolean[] open = new boolean[SIDE];
        private final Whole pivot = new Whole(Whole.WIDE);
        private final Whole cell = new Whole(Whole.WIDE);
        int breadth = 0;
        int balance = 0;

        Inertia(Desk shared) {
            desk = shared;
        }

        void measure(Grid grid, int size) {
            work.take(grid);
            desk.simplify(work.cells);
            breadth = 0;
            balance = 0;
            for (int k = 0; k < SIDE; k++) {
                open[k] = k < size;
            }
            int turned = 1;
            for (int step = 0; step < SIDE; step++) {
                int k = findSquare();
                if (k == NONE) {
                    return;
                }
                turned *= work.read(k, k).sign;
                breadth++;
                balance += turned;
                splitOff(k);
            }
        }

        private boolean isOpen(int k) {
            return k >= 0 && k < SIDE && open[k];
        }

        /** An open place whose diagonal is not 0, made if need be; NONE if all that is open is 0. */
        private int findSquare() {
            for (int k = 0; k < SIDE; k++) {
                if (isOpen(k) && !work.read(k, k).isZero()) {
                    return k;
                }
            }
            for (int i = 0; i < SIDE; i++) {
                for (int j = i + 1; j < SIDE; j++) {
                    if (isOpen(i) && isOpen(j) && !work.read(i, j).isZero()) {
                        join(i, j);
                        return i;
                    }
                }
            }
            return NONE;
        }

        /** Adds row and column j to row and column i: with 0 on the diagonal that gives twice entry i, j. */
        private void join(int i, int j) {
            for (int k = 0; k < SIDE; k++) {
                work.read(i, k).add(work.read(j, k), 1);
            }
            for (int k = 0; k < SIDE; k++) {
                work.read(k, i).add(work.read(k, j), 1);
            }
        }

        /** Leaves the rest of the form times the pivot, so that it stays whole: a pivot below 0 turns it. */
        private void splitOff(int k) {
            if (!isOpen(k)) {
                return;
            }
            open[k] = false;
            pivot.copy(work.read(k, k));
            for (int i = 0; i < SIDE; i++) {
                for (int j = i; j < SIDE; j++) {
                    if (isOpen(i) && isOpen(j)) {
                        cell.set(0);
                        desk.addProduct(cell, pivot, work.read(i, j), 1);
                        desk.addProduct(cell, work.read(i, k), work.read(k, j), -1);
                        work.read(i, j).copy(cell);
                        work.read(j, i).copy(cell);
                    }
                }
            }
        }
    }
}
