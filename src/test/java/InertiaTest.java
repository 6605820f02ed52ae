import java.lang.reflect.Constructor;
import java.lang.reflect.Field;
import java.lang.reflect.Method;
import java.util.Arrays;
import java.util.Random;

/**
 * Promises 16 and 17 on symmetric tables of small numbers, many with 0 all along the diagonal, which forms of
 * systems seldom have: rank and signature against characteristic polynomials. Reached by reflection.
 */
public final class InertiaTest {
    private static final Check CHECK = new Check();

    public static void main(String[] args) throws Exception {
        Object desk = made("ConicMeet$Desk").newInstance();
        Object inertia = made("ConicMeet$Inertia").newInstance(desk);
        Random random = new Random(11);
        for (int k = 0; k < 20000; k++) {
            int size = random.nextInt(5);
            int most = 1 + random.nextInt(3);
            boolean hollow = random.nextBoolean();
            int[][] table = new int[size][size];
            for (int i = 0; i < size; i++) {
                for (int j = 0; j <= i; j++) {
                    table[i][j] = i == j && hollow ? 0 : random.nextInt(2 * most + 1) - most;
                    table[j][i] = table[i][j];
                }
            }
            compare(inertia, table);
        }
        CHECK.end();
    }

    private static void compare(Object inertia, int[][] table) throws Exception {
        int size = table.length;
        Object grid = made("ConicMeet$Grid").newInstance(32);
        Method read = method(grid, "read", int.class, int.class);
        Oracle.Q[][] exact = new Oracle.Q[size][size];
        for (int i = 0; i < size; i++) {
            for (int j = 0; j < size; j++) {
                Object cell = read.invoke(grid, i, j);
                method(cell, "set", long.class).invoke(cell, (long) table[i][j]);
                exact[i][j] = Oracle.Q.of(table[i][j]);
            }
        }
        method(inertia, "measure", grid.getClass(), int.class).invoke(inertia, grid, size);
        int[] want = Oracle.inertia(exact);
        String name = Arrays.deepToString(table);
        CHECK.due("rank of " + name, number(inertia, "breadth"), want[0]);
        CHECK.due("signature of " + name, number(inertia, "balance"), want[1]);
    }

    private static int number(Object of, String name) throws Exception {
        Field f = of.getClass().getDeclaredField(name);
        f.setAccessible(true);
        return f.getInt(of);
    }

    private static Method method(Object of, String name, Class<?>... parameters) throws Exception {
        Method m = of.getClass().getDeclaredMethod(name, parameters);
        m.setAccessible(true);
        return m;
    }

    private static Constructor<?> made(String name) throws Exception {
        Constructor<?> c = Class.forName(name).getDeclaredConstructors()[0];
        c.setAccessible(true);
        return c;
    }
}
