import java.util.ArrayList;
import java.util.Arrays;
import java.util.List;
import java.util.Random;

/** Thousands of systems of many kinds, every answer set against the oracle's. Promises 6 to 19. */
public final class OracleTest {
    private static final Check CHECK = new Check();
    private static final int[] KINDS = new int[3];
    private static final int[] SIZES = new int[6];
    private static int huge = 0;

    public static void main(String[] args) {
        int rounds = args.length > 0 ? Integer.parseInt(args[0]) : 3000;
        long seed = args.length > 1 ? Long.parseLong(args[1]) : 20261119L;
        Random random = new Random(seed);
        ConicMeet meet = null;
        for (int k = 0; k < rounds; k++) {
            if (k % 40 == 0) {
                meet = new ConicMeet();
            }
            compare(meet, system(random), polynomial(random, random.nextInt(6)), random);
        }
        for (int kind = 0; kind < 3; kind++) {
            CHECK.due("systems of kind " + kind + " tried", KINDS[kind] > 30 ? 1 : 0, 1);
        }
        for (int size = 1; size <= 4; size++) {
            CHECK.due("algebras of size " + size + " tried", SIZES[size] > 30 ? 1 : 0, 1);
        }
        CHECK.due("huge fractions seen", huge > 50 ? 1 : 0, 1);
        System.out.println("kinds " + Arrays.toString(KINDS) + " sizes " + Arrays.toString(SIZES) + " huge " + huge);
        CHECK.end();
    }

    private static int[] polynomial(Random random, int sort) {
        int[] p = new int[6];
        int most = sort == 0 ? 1 : sort == 1 ? 2 : 5;
        for (int k = 0; k < 6; k++) {
            p[k] = random.nextInt(2 * most + 1) - most;
            if (sort == 2 && random.nextBoolean() || sort == 3 && k > 2) {
                p[k] = 0;
            }
            if (sort == 4 && random.nextInt(3) > 0) {
                p[k] = random.nextBoolean() ? 5 : -5;
            }
        }
        return p;
    }

    /** Products of lines, so that curves share lines or meet more than once at a point. */
    private static int[] lines(int[] l, int[] m) {
        return new int[] {l[0] * m[0], l[0] * m[1] + l[1] * m[0], l[0] * m[2] + l[2] * m[0], l[1] * m[1],
            l[1] * m[2] + l[2] * m[1], l[2] * m[2]};
    }

    private static int[] line(Random random) {
        return new int[] {random.nextInt(3) - 1, random.nextInt(3) - 1, random.nextInt(3) - 1};
    }

    /** Polynomials through a common point, so that more than two can have a zero in common. */
    private static int[] through(int[] p, int x, int y) {
        int[] values = {1, y, x, y * y, x * y, x * x};
        int sum = 0;
        for (int k = 1; k < 6; k++) {
            sum += p[k] * values[k];
        }
        if (sum >= -5 && sum <= 5) {
            p[0] = -sum;
        }
        return p;
    }

    private static List<int[]> system(Random random) {
        List<int[]> all = new ArrayList<>();
        int size = random.nextInt(5);
        if (random.nextInt(3) == 0) {
            size = 2;
        }
        int way = random.nextInt(5);
        int sort = random.nextInt(6);
        int[] shared = line(random);
        int x = random.nextInt(3) - 1;
        int y = random.nextInt(3) - 1;
        for (int k = 0; k < size; k++) {
            if (way == 0) {
                all.add(polynomial(random, random.nextInt(6)));
            } else if (way == 1) {
                all.add(lines(line(random), line(random)));
            } else if (way == 2) {
                all.add(lines(shared, line(random)));
            } else if (way == 3) {
                all.add(through(polynomial(random, sort), x, y));
            } else {
                all.add(polynomial(random, sort));
            }
        }
        return all;
    }

    private static void compare(ConicMeet meet, List<int[]> system, int[] query, Random random) {
        meet.clear();
        for (int[] p : system) {
            Check.tell(meet, p);
        }
        Check.ask(meet, query);
        Oracle oracle = new Oracle(system, query);
        StringBuilder name = new StringBuilder();
        for (int[] p : system) {
            name.append(Arrays.toString(p));
        }
        String run = name.append(" h ").append(Arrays.toString(query)).append(' ').toString();
        CHECK.due(run + "solve", meet.solve(), oracle.kind);
        KINDS[oracle.kind]++;
        SIZES[oracle.standard.size()]++;
        compareBasis(run, meet, oracle);
        CHECK.due(run + "member", meet.member(), Oracle.rest(oracle.query, oracle.basis).isZero() ? 1 : 0);
        boolean finite = oracle.kind != 2;
        int n = oracle.standard.size();
        CHECK.due(run + "standard", meet.standard(), finite ? n : -1);
        for (int i = -1; i <= n; i++) {
            long want = i < 0 || i >= n ? -1 : told(oracle.standard.get(i));
            CHECK.due(run + "monomial " + i, meet.monomial(i), want);
        }
        compareTables(run, meet, oracle, random);
        for (int e = 0; e < 3; e++) {
            CHECK.due(run + "rank " + e, meet.rank(e), finite ? oracle.ranks[e] : -1);
            if (finite) {
                CHECK.due(run + "signature " + e, meet.signature(e), oracle.signatures[e]);
            }
        }
        compareCounts(run, meet, oracle);
    }

    private static int told(int key) {
        return 16 * Oracle.P.powerOfX(key) + Oracle.P.powerOfY(key);
    }

    private static void compareBasis(String run, ConicMeet meet, Oracle oracle) {
        CHECK.due(run + "elements", meet.elements(), oracle.basis.size());
        for (int k = -1; k <= oracle.basis.size(); k++) {
            boolean held = k >= 0 && k < oracle.basis.size();
            CHECK.due(run + "lead " + k, meet.lead(k), held ? told(oracle.basis.get(k).lead()) : -1);
            for (int a = -1; a <= 4; a++) {
                for (int b = -1; b <= 4; b++) {
                    boolean in = held && a >= 0 && b >= 0;
                    Oracle.Q q = in ? oracle.basis.get(k).at(Oracle.P.key(a, b)) : Oracle.Q.ZERO;
                    fraction(run + "coefficient " + k + " " + a + " " + b, q,
                        meet.coefficient(k, a, b, 0), meet.coefficient(k, a, b, 1));
                }
            }
        }
    }

    private static void fraction(String call, Oracle.Q q, long over, long under) {
        huge += q.told(0) == ConicMeet.HUGE ? 1 : 0;
        CHECK.due(call + " numerator", over, q.told(0));
        CHECK.due(call + " denominator", under, q.told(1));
    }

    private static void compareTables(String run, ConicMeet meet, Oracle oracle, Random random) {
        int n = oracle.standard.size();
        Oracle.Q[][][] tables = {oracle.tableX, oracle.tableY, oracle.tableH};
        for (int k = 0; k < 3; k++) {
            for (int i = 0; i < n; i++) {
                for (int j = 0; j < n; j++) {
                    fraction(run + "table " + k + " " + i + " " + j, tables[k][i][j],
                        meet.table(k, i, j, 0), meet.table(k, i, j, 1));
                    fraction(run + "form " + k + " " + i + " " + j, oracle.forms[k][i][j],
                        meet.form(k, i, j, 0), meet.form(k, i, j, 1));
                }
            }
            int at = random.nextInt(5) - 1;
            CHECK.due(run + "table beyond", meet.table(k, n, at, 0), -1);
            CHECK.due(run + "table beyond", meet.table(k, at, n, 1), -1);
            CHECK.due(run + "form beyond", meet.form(k, n, at, 0), -1);
            CHECK.due(run + "form beyond", meet.form(k, at, n, 1), -1);
        }
        Oracle.P rest = Oracle.rest(oracle.query, oracle.basis);
        for (int i = 0; i < n; i++) {
            fraction(run + "remainder " + i, rest.at(oracle.standard.get(i)),
                meet.remainder(i, 0), meet.remainder(i, 1));
        }
        CHECK.due(run + "remainder beyond", meet.remainder(n, 0), -1);
    }

    /** Different and real zeros by the roots of x + t y: some t tells the zeros apart. */
    private static void compareCounts(String run, ConicMeet meet, Oracle oracle) {
        if (oracle.kind != 1) {
            long want = oracle.kind == 0 ? 0 : -1;
            CHECK.due(run + "complex", meet.complex(), want);
            for (int sign = -1; sign <= 2; sign++) {
                CHECK.due(run + "real " + sign, meet.real(sign), want);
            }
            return;
        }
        int complex = 0;
        int real = 0;
        for (int t = 1; t <= 11; t++) {
            int[] roots = oracle.roots(t);
            if (roots[1] > complex) {
                complex = roots[1];
                real = roots[0];
            }
        }
        CHECK.due(run + "complex", meet.complex(), complex);
        CHECK.due(run + "real 2", meet.real(2), real);
        int apart = oracle.signatures[2];
        CHECK.due(run + "real 1", meet.real(1), (apart + oracle.signatures[1]) / 2);
        CHECK.due(run + "real 0", meet.real(0), real - apart);
        CHECK.due(run + "real -1", meet.real(-1), (apart - oracle.signatures[1]) / 2);
    }
}
