import java.math.BigInteger;
import java.util.ArrayList;
import java.util.Collections;
import java.util.List;
import java.util.Map;
import java.util.TreeMap;

/**
 * The same questions answered another way: Buchberger's algorithm as it stands in the books, division with
 * remainder, traces of whole tables, and characteristic polynomials. Slow and plain, for tests alone.
 */
final class Oracle {
    /** A fraction in lowest terms. */
    static final class Q {
        static final Q ZERO = new Q(BigInteger.ZERO, BigInteger.ONE);
        static final Q ONE = of(1);
        final BigInteger n;
        final BigInteger d;

        Q(BigInteger over, BigInteger under) {
            BigInteger g = over.gcd(under);
            if (under.signum() < 0) {
                g = g.negate();
            }
            n = over.divide(g);
            d = under.divide(g);
        }

        static Q of(long v) {
            return new Q(BigInteger.valueOf(v), BigInteger.ONE);
        }

        Q plus(Q o) {
            return new Q(n.multiply(o.d).add(o.n.multiply(d)), d.multiply(o.d));
        }

        Q minus(Q o) {
            return plus(o.times(of(-1)));
        }

        Q times(Q o) {
            return new Q(n.multiply(o.n), d.multiply(o.d));
        }

        Q by(Q o) {
            return new Q(n.multiply(o.d), d.multiply(o.n));
        }

        int sign() {
            return n.signum();
        }

        long told(int what) {
            if (n.bitLength() > 63 || d.bitLength() > 63 || n.equals(BigInteger.valueOf(Long.MIN_VALUE))) {
                return ConicMeet.HUGE;
            }
            return what == 0 ? n.longValueExact() : d.longValueExact();
        }
    }

    /** A polynomial: monomial keys in the document's order (degree, then power of x). */
    static final class P {
        final TreeMap<Integer, Q> terms = new TreeMap<>();

        static int key(int a, int b) {
            return (a + b) * 100 + a;
        }

        static int powerOfX(int key) {
            return key % 100;
        }

        static int powerOfY(int key) {
            return key / 100 - key % 100;
        }

        static P monomial(int key) {
            return new P().add(key, Q.ONE);
        }

        static P of(int[] coefficients) {
            int[][] powers = {{0, 0}, {0, 1}, {1, 0}, {0, 2}, {1, 1}, {2, 0}};
            P p = new P();
            for (int k = 0; k < 6; k++) {
                p.add(key(powers[k][0], powers[k][1]), Q.of(coefficients[k]));
            }
            return p;
        }

        P add(int key, Q c) {
            Q sum = at(key).plus(c);
            if (sum.sign() == 0) {
                terms.remove(key);
            } else {
                terms.put(key, sum);
            }
            return this;
        }

        Q at(int key) {
            return terms.getOrDefault(key, Q.ZERO);
        }

        boolean isZero() {
            return terms.isEmpty();
        }

        int lead() {
            return terms.lastKey();
        }

        P plus(P o, Q factor, int a, int b) {
            P sum = new P();
            sum.terms.putAll(terms);
            for (Map.Entry<Integer, Q> t : o.terms.entrySet()) {
                sum.add(key(powerOfX(t.getKey()) + a, powerOfY(t.getKey()) + b), t.getValue().times(factor));
            }
            return sum;
        }

        P times(P o) {
            P product = new P();
            for (Map.Entry<Integer, Q> t : o.terms.entrySet()) {
                product = product.plus(this, t.getValue(), powerOfX(t.getKey()), powerOfY(t.getKey()));
            }
            return product;
        }

        P monic() {
            return new P().plus(this, Q.ONE.by(at(lead())), 0, 0);
        }
    }

    final List<P> basis;
    final List<Integer> standard = new ArrayList<>();
    final P query;
    final int kind;
    final Q[][] tableX;
    final Q[][] tableY;
    final Q[][] tableH;
    final Q[][][] forms = new Q[3][][];
    final int[] ranks = new int[3];
    final int[] signatures = new int[3];

    Oracle(List<int[]> system, int[] h) {
        query = P.of(h);
        basis = reduced(system);
        kind = kindOf();
        if (kind != 1) {
            tableX = tableY = tableH = new Q[0][0];
            return;
        }
        findStandard();
        tableX = table(P.monomial(P.key(1, 0)));
        tableY = table(P.monomial(P.key(0, 1)));
        tableH = table(query);
        P power = P.monomial(P.key(0, 0));
        for (int e = 0; e < 3; e++) {
            forms[e] = form(power);
            power = power.times(query);
            int[] inertia = inertia(forms[e]);
            ranks[e] = inertia[0];
            signatures[e] = inertia[1];
        }
    }

    private static boolean divides(int low, int high) {
        return P.powerOfX(low) <= P.powerOfX(high) && P.powerOfY(low) <= P.powerOfY(high);
    }

    static P rest(P p, List<P> by) {
        P left = new P();
        P todo = p;
        while (!todo.isZero()) {
            int top = todo.lead();
            P found = null;
            for (P b : by) {
                if (divides(b.lead(), top)) {
                    found = b;
                    break;
                }
            }
            if (found == null) {
                left.add(top, todo.at(top));
                todo = todo.plus(P.monomial(top), todo.at(top).times(Q.of(-1)), 0, 0);
            } else {
                int a = P.powerOfX(top) - P.powerOfX(found.lead());
                int b = P.powerOfY(top) - P.powerOfY(found.lead());
                todo = todo.plus(found, todo.at(top).by(found.at(found.lead())).times(Q.of(-1)), a, b);
            }
        }
        return left;
    }

    private static P pair(P f, P g) {
        int a = Math.max(P.powerOfX(f.lead()), P.powerOfX(g.lead()));
        int b = Math.max(P.powerOfY(f.lead()), P.powerOfY(g.lead()));
        P left = new P().plus(f, Q.ONE.by(f.at(f.lead())), a - P.powerOfX(f.lead()), b - P.powerOfY(f.lead()));
        return left.plus(g, Q.of(-1).by(g.at(g.lead())), a - P.powerOfX(g.lead()), b - P.powerOfY(g.lead()));
    }

    private static List<P> reduced(List<int[]> system) {
        List<P> all = new ArrayList<>();
        for (int[] c : system) {
            P p = rest(P.of(c), all);
            if (!p.isZero()) {
                all.add(p.monic());
            }
        }
        for (int i = 0; i < all.size(); i++) {
            for (int j = 0; j < i; j++) {
                P p = rest(pair(all.get(i), all.get(j)), all);
                if (!p.isZero()) {
                    all.add(p.monic());
                }
            }
        }
        List<P> least = new ArrayList<>();
        for (int i = 0; i < all.size(); i++) {
            boolean needed = true;
            for (int j = 0; j < all.size(); j++) {
                int low = all.get(j).lead();
                int high = all.get(i).lead();
                needed &= i == j || !divides(low, high) || low == high && i < j;
            }
            if (needed) {
                least.add(all.get(i));
            }
        }
        List<P> done = new ArrayList<>();
        for (P p : least) {
            List<P> others = new ArrayList<>(least);
            others.remove(p);
            done.add(rest(p, others).monic());
        }
        Collections.sort(done, (p, q) -> Integer.compare(p.lead(), q.lead()));
        return done;
    }

    private int kindOf() {
        boolean x = false;
        boolean y = false;
        for (P p : basis) {
            if (p.lead() == 0) {
                return 0;
            }
            x |= P.powerOfY(p.lead()) == 0;
            y |= P.powerOfX(p.lead()) == 0;
        }
        return x && y ? 1 : 2;
    }

    private void findStandard() {
        for (int degree = 0; degree < 9; degree++) {
            for (int a = 0; a <= degree; a++) {
                int key = P.key(a, degree - a);
                boolean free = true;
                for (P p : basis) {
                    free &= !divides(p.lead(), key);
                }
                if (free) {
                    standard.add(key);
                }
            }
        }
    }

    private Q[][] table(P f) {
        int n = standard.size();
        Q[][] m = new Q[n][n];
        for (int j = 0; j < n; j++) {
            P r = rest(f.times(P.monomial(standard.get(j))), basis);
            for (int i = 0; i < n; i++) {
                m[i][j] = r.at(standard.get(i));
            }
        }
        return m;
    }

    private Q[][] form(P power) {
        int n = standard.size();
        Q[][] f = new Q[n][n];
        for (int i = 0; i < n; i++) {
            for (int j = 0; j < n; j++) {
                P p = power.times(P.monomial(standard.get(i))).times(P.monomial(standard.get(j)));
                f[i][j] = trace(table(p));
            }
        }
        return f;
    }

    static Q trace(Q[][] m) {
        Q sum = Q.ZERO;
        for (int i = 0; i < m.length; i++) {
            sum = sum.plus(m[i][i]);
        }
        return sum;
    }

    static Q[][] product(Q[][] a, Q[][] b) {
        int n = a.length;
        Q[][] c = new Q[n][n];
        for (int i = 0; i < n; i++) {
            for (int j = 0; j < n; j++) {
                c[i][j] = Q.ZERO;
                for (int k = 0; k < n; k++) {
                    c[i][j] = c[i][j].plus(a[i][k].times(b[k][j]));
                }
            }
        }
        return c;
    }

    /** Coefficients of the characteristic polynomial, the constant first, by Faddeev and LeVerrier. */
    static Q[] characteristic(Q[][] a) {
        int n = a.length;
        Q[] c = new Q[n + 1];
        c[n] = Q.ONE;
        Q[][] m = new Q[n][n];
        for (Q[] row : m) {
            java.util.Arrays.fill(row, Q.ZERO);
        }
        for (int k = 1; k <= n; k++) {
            m = product(a, m);
            for (int i = 0; i < n; i++) {
                m[i][i] = m[i][i].plus(c[n - k + 1]);
            }
            c[n - k] = trace(product(a, m)).times(new Q(BigInteger.valueOf(-1), BigInteger.valueOf(k)));
        }
        return c;
    }

    private static int changes(Q[] c, boolean turned) {
        int last = 0;
        int changes = 0;
        for (int k = 0; k < c.length; k++) {
            int sign = turned && k % 2 == 1 ? -c[k].sign() : c[k].sign();
            if (sign != 0) {
                changes += last != 0 && sign != last ? 1 : 0;
                last = sign;
            }
        }
        return changes;
    }

    /** All roots of a symmetric table are real: Descartes' rule counts them exactly. */
    static int[] inertia(Q[][] a) {
        Q[] c = characteristic(a);
        int above = changes(c, false);
        int below = changes(c, true);
        return new int[] {above + below, above - below};
    }

    /** How many different real numbers are roots, by Sturm; and how many different roots there are at all. */
    static int[] roots(Q[] c) {
        List<Q[]> chain = new ArrayList<>();
        chain.add(c);
        Q[] slope = new Q[c.length - 1];
        for (int k = 1; k < c.length; k++) {
            slope[k - 1] = c[k].times(Q.of(k));
        }
        Q[] low = slope;
        while (low.length > 0) {
            chain.add(low);
            low = turnedRest(chain.get(chain.size() - 2), low);
        }
        int left = 0;
        int right = 0;
        int lastLeft = 0;
        int lastRight = 0;
        for (Q[] p : chain) {
            int r = p[p.length - 1].sign();
            int l = p.length % 2 == 0 ? -r : r;
            left += lastLeft != 0 && lastLeft != l ? 1 : 0;
            right += lastRight != 0 && lastRight != r ? 1 : 0;
            lastLeft = l;
            lastRight = r;
        }
        int common = chain.get(chain.size() - 1).length - 1;
        return new int[] {left - right, c.length - 1 - common};
    }

    /** The roots of the characteristic polynomial of x + t y: the zeros' own, if it tells them apart. */
    int[] roots(int t) {
        int n = standard.size();
        Q[][] m = new Q[n][n];
        for (int i = 0; i < n; i++) {
            for (int j = 0; j < n; j++) {
                m[i][j] = tableX[i][j].plus(tableY[i][j].times(Q.of(t)));
            }
        }
        return roots(characteristic(m));
    }

    private static Q[] turnedRest(Q[] high, Q[] low) {
        Q[] r = high.clone();
        for (int top = r.length - 1; top >= low.length - 1; top--) {
            Q f = r[top].by(low[low.length - 1]);
            for (int k = 0; k < low.length; k++) {
                int to = top - low.length + 1 + k;
                r[to] = r[to].minus(f.times(low[k]));
            }
        }
        int length = Math.min(r.length, low.length - 1);
        while (length > 0 && r[length - 1].sign() == 0) {
            length--;
        }
        Q[] turned = new Q[length];
        for (int k = 0; k < length; k++) {
            turned[k] = r[k].times(Q.of(-1));
        }
        return turned;
    }
}
