import java.util.ArrayList;
import java.util.List;
import java.util.Random;

/** Pairs of pairs of lines: the zeros are known as fractions, and the query's sign at each. Promises 7 and 8. */
public final class KnownZerosTest {
    private static final Check CHECK = new Check();

    public static void main(String[] args) {
        Random random = new Random(7);
        int used = 0;
        for (int k = 0; k < 20000; k++) {
            used += tried(random) ? 1 : 0;
        }
        CHECK.due("pairs of pairs with known zeros", used > 1000 ? 1 : 0, 1);
        circles();
        CHECK.end();
    }

    private static long[] line(Random random) {
        return new long[] {random.nextInt(5) - 2, random.nextInt(5) - 2, random.nextInt(5) - 2};
    }

    private static int[] product(long[] l, long[] m) {
        long[] p = {l[0] * m[0], l[0] * m[1] + l[1] * m[0], l[0] * m[2] + l[2] * m[0], l[1] * m[1],
            l[1] * m[2] + l[2] * m[1], l[2] * m[2]};
        int[] told = new int[6];
        for (int k = 0; k < 6; k++) {
            if (p[k] < -5 || p[k] > 5) {
                return null;
            }
            told[k] = (int) p[k];
        }
        return told;
    }

    /** The point (w, y, x) of two lines, w above 0; null if they are parallel. */
    private static long[] point(long[] l, long[] m) {
        long w = l[1] * m[2] - l[2] * m[1];
        long y = l[2] * m[0] - l[0] * m[2];
        long x = l[0] * m[1] - l[1] * m[0];
        return w == 0 ? null : w > 0 ? new long[] {w, y, x} : new long[] {-w, -y, -x};
    }

    private static boolean tried(Random random) {
        long[][] l = {line(random), line(random), line(random), line(random)};
        int[] f = product(l[0], l[1]);
        int[] g = product(l[2], l[3]);
        if (f == null || g == null) {
            return false;
        }
        List<long[]> points = new ArrayList<>();
        for (int i = 0; i < 2; i++) {
            for (int j = 2; j < 4; j++) {
                long[] p = point(l[i], l[j]);
                if (p == null || l[i][1] == 0 && l[i][2] == 0 || l[j][1] == 0 && l[j][2] == 0) {
                    return false;
                }
                boolean known = false;
                for (long[] q : points) {
                    known |= q[1] * p[0] == p[1] * q[0] && q[2] * p[0] == p[2] * q[0];
                }
                if (!known) {
                    points.add(p);
                }
            }
        }
        int[] h = new int[6];
        for (int k = 0; k < 6; k++) {
            h[k] = random.nextInt(11) - 5;
        }
        ask(f, g, h, points);
        return true;
    }

    private static void ask(int[] f, int[] g, int[] h, List<long[]> points) {
        int[] signs = new int[3];
        for (long[] p : points) {
            long[] values = {p[0] * p[0], p[0] * p[1], p[0] * p[2], p[1] * p[1], p[1] * p[2], p[2] * p[2]};
            long sum = 0;
            for (int k = 0; k < 6; k++) {
                sum += h[k] * values[k];
            }
            signs[1 + Long.signum(sum)]++;
        }
        ConicMeet meet = new ConicMeet();
        Check.tell(meet, f);
        Check.tell(meet, g);
        Check.ask(meet, h);
        CHECK.due("solve", meet.solve(), 1);
        CHECK.due("standard", meet.standard(), 4);
        CHECK.due("complex", meet.complex(), points.size());
        CHECK.due("real 2", meet.real(2), points.size());
        for (int sign = -1; sign <= 1; sign++) {
            CHECK.due("real " + sign, meet.real(sign), signs[1 + sign]);
        }
    }

    /** Circles round points of the x axis: two meeting points, one, or none that is real. */
    private static void circles() {
        for (int apart = 1; apart <= 2; apart++) {
            for (int square = 1; square <= 4; square++) {
                ConicMeet meet = new ConicMeet();
                Check.tell(meet, -square, 0, 0, 1, 0, 1);
                Check.tell(meet, apart * apart - square, 0, -2 * apart, 1, 0, 1);
                Check.ask(meet, 0, 1, 0, 0, 0, 0);
                int height = 4 * square - apart * apart;
                CHECK.due("circles solve", meet.solve(), 1);
                CHECK.due("circles complex", meet.complex(), height == 0 ? 1 : 2);
                CHECK.due("circles real", meet.real(2), height == 0 ? 1 : height > 0 ? 2 : 0);
                CHECK.due("circles above", meet.real(1), height > 0 ? 1 : 0);
                CHECK.due("circles on", meet.real(0), height == 0 ? 1 : 0);
                CHECK.due("circles below", meet.real(-1), height > 0 ? 1 : 0);
            }
        }
    }
}
