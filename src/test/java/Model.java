import java.util.ArrayList;
import java.util.Arrays;
import java.util.List;

/** The document's promises as they stand there, one method each, over the oracle. Slow and plain, for tests alone. */
final class Model {
    private final List<int[]> system = new ArrayList<>();
    private final int[] query = new int[6];
    private final List<int[]> solvedSystem = new ArrayList<>();
    private int[] solvedQuery = new int[6];
    private Oracle told = null;
    private int complex = 0;
    private int real = 0;
    private int worked = 0;

    void clear() {
        system.clear();
        Arrays.fill(query, 0);
    }

    int start() {
        if (system.size() == 4) {
            return -1;
        }
        system.add(new int[6]);
        return system.size() - 1;
    }

    int term(int polynomial, int a, int b, int c) {
        if (polynomial < 0 || polynomial >= system.size()) {
            throw new IndexOutOfBoundsException();
        }
        return add(system.get(polynomial), a, b, c);
    }

    int query(int a, int b, int c) {
        return add(query, a, b, c);
    }

    private static int place(int a, int b) {
        for (int k = 0; k < 6; k++) {
            if (Check.A[k] == a && Check.B[k] == b) {
                return k;
            }
        }
        return -1;
    }

    private static int add(int[] to, int a, int b, int c) {
        int k = place(a, b);
        if (k < 0 || Math.abs((long) to[k] + c) > 5) {
            throw new IllegalArgumentException();
        }
        to[k] += c;
        return to[k];
    }

    int solve() {
        if (told != null && same()) {
            return told.kind;
        }
        if (worked == 40) {
            return -1;
        }
        worked++;
        solvedSystem.clear();
        for (int[] p : system) {
            solvedSystem.add(p.clone());
        }
        solvedQuery = query.clone();
        told = new Oracle(solvedSystem, solvedQuery);
        countZeros();
        return told.kind;
    }

    private boolean same() {
        boolean same = system.size() == solvedSystem.size() && Arrays.equals(query, solvedQuery);
        for (int k = 0; same && k < system.size(); k++) {
            same = Arrays.equals(system.get(k), solvedSystem.get(k));
        }
        return same;
    }

    private void countZeros() {
        complex = 0;
        real = 0;
        for (int t = 1; told.kind == 1 && t <= 7; t++) {
            int[] roots = told.roots(t);
            if (roots[1] > complex) {
                complex = roots[1];
                real = roots[0];
            }
        }
    }

    private boolean finite() {
        return told != null && told.kind != 2;
    }

    int complex() {
        return finite() ? complex : -1;
    }

    int real(int sign) {
        if (!finite() || sign < -1 || sign > 2) {
            return -1;
        }
        int apart = told.signatures[2];
        int more = told.signatures[1];
        return sign == 2 ? real : sign == 0 ? real - apart : (apart + sign * more) / 2;
    }

    int elements() {
        return told == null ? -1 : told.basis.size();
    }

    private static int told(int key) {
        return 16 * Oracle.P.powerOfX(key) + Oracle.P.powerOfY(key);
    }

    int lead(int k) {
        return k < 0 || k >= elements() ? -1 : told(told.basis.get(k).lead());
    }

    long coefficient(int k, int a, int b, int what) {
        if (told == null || what < 0 || what > 1) {
            return -1;
        }
        if (k < 0 || k >= elements() || a < 0 || b < 0 || a > 9 || b > 9) {
            return what;
        }
        return told.basis.get(k).at(Oracle.P.key(a, b)).told(what);
    }

    int standard() {
        return finite() ? told.standard.size() : -1;
    }

    int monomial(int i) {
        return i < 0 || i >= standard() ? -1 : told(told.standard.get(i));
    }

    private long entry(Oracle.Q[][] table, int i, int j, int what) {
        int size = standard();
        return i < 0 || i >= size || j < 0 || j >= size || what < 0 || what > 1 ? -1 : table[i][j].told(what);
    }

    long table(int of, int i, int j, int what) {
        if (!finite() || of < 0 || of > 2) {
            return -1;
        }
        return entry(of == 0 ? told.tableX : of == 1 ? told.tableY : told.tableH, i, j, what);
    }

    long form(int e, int i, int j, int what) {
        return !finite() || e < 0 || e > 2 ? -1 : entry(told.forms[e], i, j, what);
    }

    int rank(int e) {
        return !finite() || e < 0 || e > 2 ? -1 : told.ranks[e];
    }

    int signature(int e) {
        if (e < 0 || e > 2) {
            throw new IllegalArgumentException();
        }
        if (!finite()) {
            throw new IllegalStateException();
        }
        return told.signatures[e];
    }

    long remainder(int i, int what) {
        if (i < 0 || i >= standard() || what < 0 || what > 1) {
            return -1;
        }
        return Oracle.rest(told.query, told.basis).at(told.standard.get(i)).told(what);
    }

    int member() {
        return told == null ? -1 : Oracle.rest(told.query, told.basis).isZero() ? 1 : 0;
    }

    int count(int what) {
        return what == 0 ? system.size() : what == 1 ? worked : what == 2 && told != null ? told.kind : -1;
    }

    int at(int polynomial, int a, int b) {
        int k = place(a, b);
        if (k < 0 || polynomial < -1 || polynomial >= system.size()) {
            return 0;
        }
        return polynomial == -1 ? query[k] : system.get(polynomial)[k];
    }
}
