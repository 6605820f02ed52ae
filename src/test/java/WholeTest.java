import java.lang.reflect.Constructor;
import java.lang.reflect.Field;
import java.lang.reflect.Method;
import java.math.BigInteger;
import java.util.Random;

/**
 * The whole numbers inside the class against BigInteger, with limbs that are all bits or none: the rare turns of
 * long division, which no system of a test need come by. They are reached by reflection.
 */
public final class WholeTest {
    private static final Check CHECK = new Check();
    private static final Class<?> WHOLE = inner("ConicMeet$Whole");
    private static final Class<?> DESK = inner("ConicMeet$Desk");

    public static void main(String[] args) throws Exception {
        Object desk = made(DESK);
        Random random = new Random(3);
        Method divide = method(DESK, "divide", WHOLE, WHOLE, WHOLE);
        Method divisor = method(DESK, "divisor", WHOLE, WHOLE);
        Method product = method(WHOLE, "setProduct", WHOLE, WHOLE);
        Method add = method(WHOLE, "add", WHOLE, int.class);
        for (int k = 0; k < 60000; k++) {
            BigInteger a = number(random, 1 + random.nextInt(9));
            BigInteger b = number(random, 1 + random.nextInt(6));
            if (random.nextInt(4) == 0) {
                a = a.multiply(b).subtract(BigInteger.valueOf(random.nextInt(2))).max(BigInteger.ZERO);
            }
            Object rest = whole(a);
            Object quotient = whole(number(random, 3));
            if (b.signum() != 0) {
                divide.invoke(desk, rest, whole(b), quotient);
                same(a + " % " + b, rest, a.mod(b));
                same(a + " / " + b, quotient, a.divide(b));
            }
            BigInteger c = random.nextBoolean() ? a : a.negate();
            BigInteger d = random.nextBoolean() ? b : b.negate();
            same("gcd " + c + " " + d, divisor.invoke(desk, whole(c), whole(d)), a.gcd(b));
            Object sum = whole(c);
            product.invoke(sum, whole(c), whole(d));
            same(c + " * " + d, sum, c.multiply(d));
            sum = whole(c);
            add.invoke(sum, whole(d), 1);
            same(c + " + " + d, sum, c.add(d));
            sum = whole(c);
            add.invoke(sum, whole(d), -1);
            same(c + " - " + d, sum, c.subtract(d));
        }
        longs();
        fractions(desk);
        CHECK.end();
    }

    private static void longs() throws Exception {
        Method isLong = method(WHOLE, "isLong");
        Method toLong = method(WHOLE, "toLong");
        Method set = method(WHOLE, "set", long.class);
        BigInteger edge = BigInteger.ONE.shiftLeft(63);
        for (int k = -3; k <= 3; k++) {
            for (int sign = -1; sign <= 1; sign += 2) {
                BigInteger v = edge.add(BigInteger.valueOf(k)).multiply(BigInteger.valueOf(sign));
                CHECK.due("isLong " + v, (Boolean) isLong.invoke(whole(v)) ? 1 : 0, k < 0 ? 1 : 0);
                if (k < 0) {
                    CHECK.due("toLong " + v, (Long) toLong.invoke(whole(v)), v.longValueExact());
                }
            }
        }
        for (long v : new long[] {0, 1, -1, 5, -5, 1L << 31, (1L << 31) - 1, -(1L << 31), 1L << 62, (1L << 62) - 1,
            Long.MAX_VALUE, -Long.MAX_VALUE}) {
            Object w = whole(BigInteger.TEN);
            set.invoke(w, v);
            same("set", w, BigInteger.valueOf(v));
            CHECK.due("toLong " + v, (Long) toLong.invoke(w), v);
        }
    }

    /** No system of a test has a fraction just at the edge, so it is told to the desk itself. */
    private static void fractions(Object desk) throws Exception {
        CHECK.about("Fractions are told in lowest terms .. If one of the two is not -(2^63 - 1) .. 2^63 - 1, both are "
            + "told as HUGE");
        BigInteger out = BigInteger.ONE.shiftLeft(63);
        BigInteger in = out.subtract(BigInteger.ONE);
        BigInteger one = BigInteger.ONE;
        long max = Long.MAX_VALUE;
        long huge = ConicMeet.HUGE;
        for (BigInteger factor : new BigInteger[] {one, BigInteger.TWO, BigInteger.valueOf(15), out, in.multiply(in)}) {
            fraction(desk, in, one, factor, max, 1);
            fraction(desk, in.negate(), one, factor, -max, 1);
            fraction(desk, out, one, factor, huge, huge);
            fraction(desk, out.negate(), one, factor, huge, huge);
            fraction(desk, one, in, factor, 1, max);
            fraction(desk, one.negate(), in, factor, -1, max);
            fraction(desk, one, out, factor, huge, huge);
            fraction(desk, one.negate(), out, factor, huge, huge);
            fraction(desk, in, in.subtract(one), factor, max, max - 1);
            fraction(desk, in.negate(), in.subtract(one), factor, -max, max - 1);
            fraction(desk, in, out, factor, huge, huge);
            fraction(desk, out, in, factor, huge, huge);
            fraction(desk, out.negate(), in, factor, huge, huge);
            fraction(desk, out.shiftLeft(1), one, factor, huge, huge);
            fraction(desk, out.shiftLeft(64).add(one), BigInteger.TWO, factor, huge, huge);
            fraction(desk, one, out.shiftLeft(64), factor, huge, huge);
            fraction(desk, BigInteger.ZERO, one, factor, 0, 1);
            fraction(desk, one, one, factor, 1, 1);
            fraction(desk, BigInteger.valueOf(-7), BigInteger.valueOf(3), factor, -7, 3);
        }
    }

    private static void fraction(Object desk, BigInteger over, BigInteger under, BigInteger factor, long wantOver,
            long wantUnder) throws Exception {
        Method tell = method(DESK, "tell", WHOLE, WHOLE, int.class);
        Object above = whole(over.multiply(factor));
        Object below = whole(under.multiply(factor));
        String name = over + " by " + under + " widened by " + factor;
        CHECK.due("numerator of " + name, (Long) tell.invoke(desk, above, below, 0), wantOver);
        CHECK.due("denominator of " + name, (Long) tell.invoke(desk, above, below, 1), wantUnder);
        same("what is told stays", above, over.multiply(factor));
        same("what is told stays", below, under.multiply(factor));
    }

    private static BigInteger number(Random random, int limbs) {
        int[] edges = {0, 1, Integer.MAX_VALUE, Integer.MAX_VALUE - 1, 1 << 30, (1 << 30) - 1, (1 << 30) + 1};
        BigInteger v = BigInteger.ZERO;
        for (int k = 0; k < limbs; k++) {
            int limb = random.nextInt(3) == 0 ? random.nextInt(Integer.MAX_VALUE) : edges[random.nextInt(edges.length)];
            v = v.shiftLeft(31).or(BigInteger.valueOf(limb));
        }
        return v;
    }

    private static Object whole(BigInteger v) throws Exception {
        Object w = made(WHOLE);
        int[] limbs = (int[]) field("limbs").get(w);
        BigInteger left = v.abs();
        int used = 0;
        while (left.signum() > 0) {
            limbs[used] = left.intValue() & Integer.MAX_VALUE;
            left = left.shiftRight(31);
            used++;
        }
        field("used").setInt(w, used);
        field("sign").setInt(w, v.signum());
        return w;
    }

    private static void same(String call, Object w, BigInteger want) throws Exception {
        int[] limbs = (int[]) field("limbs").get(w);
        BigInteger got = BigInteger.ZERO;
        int used = field("used").getInt(w);
        for (int k = used - 1; k >= 0; k--) {
            got = got.shiftLeft(31).or(BigInteger.valueOf(limbs[k]));
        }
        int sign = field("sign").getInt(w);
        boolean trimmed = used == 0 ? sign == 0 : limbs[used - 1] != 0 && sign != 0;
        got = got.multiply(BigInteger.valueOf(sign));
        CHECK.due(call + " is " + want + ", not " + got, trimmed && got.equals(want) ? 1 : 0, 1);
    }

    private static Field field(String name) throws Exception {
        Field f = WHOLE.getDeclaredField(name);
        f.setAccessible(true);
        return f;
    }

    private static Method method(Class<?> of, String name, Class<?>... parameters) throws Exception {
        Method m = of.getDeclaredMethod(name, parameters);
        m.setAccessible(true);
        return m;
    }

    private static Object made(Class<?> of) throws Exception {
        Constructor<?> c = of.getDeclaredConstructors()[0];
        c.setAccessible(true);
        return c.getParameterCount() == 0 ? c.newInstance() : c.newInstance(32);
    }

    private static Class<?> inner(String name) {
        try {
            return Class.forName(name);
        } catch (ClassNotFoundException e) {
            throw new IllegalStateException(e);
        }
    }
}
