import java.lang.reflect.InvocationTargetException;
import java.lang.reflect.Method;
import java.util.Arrays;
import java.util.Random;

/**
 * Promises 1 to 21 in runs: 512 calls in any order with any arguments, each answer (or exception, by its own class)
 * set against the model's.
 */
public final class RunsTest {
    private static final Check CHECK = new Check();
    private static final String[] ASKED = {"complex", "real", "elements", "lead", "coefficient", "standard", "monomial",
        "table", "form", "rank", "signature", "remainder", "member", "count", "at"};
    private static final int[] WILD = {Integer.MIN_VALUE, Integer.MIN_VALUE + 1, -65536, -256, -6, -3, -2, -1, 3, 4, 5,
        6, 10, 16, 256, 65536, 1 << 30, Integer.MAX_VALUE - 1, Integer.MAX_VALUE};

    private static ConicMeet meet;
    private static Model model;

    public static void main(String[] args) throws Exception {
        int runs = args.length > 0 ? Integer.parseInt(args[0]) : 120;
        Random random = new Random(args.length > 1 ? Long.parseLong(args[1]) : 12L);
        int full = 0;
        int[] kinds = new int[3];
        for (int run = 0; run < runs; run++) {
            meet = new ConicMeet();
            model = new Model();
            int solving = 2 + random.nextInt(20);
            int asking = random.nextInt(70);
            for (int calls = 0; calls < 512; calls++) {
                step(random, solving, asking);
            }
            full += model.count(1) == 40 ? 1 : 0;
            if (model.count(2) >= 0) {
                kinds[model.count(2)]++;
            }
        }
        CHECK.due("runs that came to the 40th solve()", full > runs / 10 ? 1 : 0, 1);
        for (int kind = 0; kind < 3; kind++) {
            CHECK.due("runs that ended with kind " + kind, kinds[kind] > runs / 30 ? 1 : 0, 1);
        }
        System.out.println(full + " of " + runs + " runs came to the 40th solve(), kinds " + Arrays.toString(kinds));
        CHECK.end();
    }

    /** One call; of a hundred, so many solve and so many ask, and the others tell. */
    private static void step(Random random, int solving, int asking) throws Exception {
        int way = random.nextInt(100);
        if (way < solving) {
            same("solve");
        } else if (way < solving + asking) {
            ask(random);
        } else if (random.nextInt(8) == 0) {
            same(random.nextInt(5) == 0 ? "clear" : "start");
        } else if (random.nextInt(4) == 0) {
            same("query", power(random), power(random), change(random));
        } else {
            int size = Math.max(model.count(0), 1);
            int polynomial = random.nextInt(20) == 0 ? any(random) : random.nextInt(size);
            same("term", polynomial, power(random), power(random), change(random));
        }
    }

    private static int any(Random random) {
        return random.nextInt(4) > 0 ? random.nextInt(4) : WILD[random.nextInt(WILD.length)];
    }

    private static int power(Random random) {
        return random.nextInt(30) == 0 ? any(random) : random.nextInt(2) * (1 + random.nextInt(2));
    }

    private static int change(Random random) {
        return random.nextInt(30) == 0 ? any(random) : random.nextInt(11) - 5;
    }

    private static void ask(Random random) throws Exception {
        Method asked = method(Model.class, ASKED[random.nextInt(ASKED.length)]);
        int[] arguments = new int[asked.getParameterCount()];
        for (int k = 0; k < arguments.length; k++) {
            arguments[k] = any(random);
        }
        if (random.nextInt(3) > 0 && arguments.length > 1) {
            arguments[arguments.length - 1] = random.nextInt(2);
        }
        same(asked.getName(), arguments);
    }

    private static Method method(Class<?> of, String name) {
        for (Method m : of.getDeclaredMethods()) {
            if (m.getName().equals(name) && !java.lang.reflect.Modifier.isPrivate(m.getModifiers())) {
                return m;
            }
        }
        throw new IllegalStateException(name);
    }

    private static void same(String name, int... arguments) throws Exception {
        CHECK.due(name + Arrays.toString(arguments), answer(meet, name, arguments), answer(model, name, arguments));
    }

    private static String answer(Object of, String name, int... arguments) throws Exception {
        Object[] boxed = new Object[arguments.length];
        for (int k = 0; k < boxed.length; k++) {
            boxed[k] = arguments[k];
        }
        try {
            return String.valueOf(method(of.getClass(), name).invoke(of, boxed));
        } catch (InvocationTargetException e) {
            return "throws." + e.getCause().getClass().getSimpleName();
        }
    }
}
