import java.lang.reflect.Array;
import java.lang.reflect.Constructor;
import java.lang.reflect.Field;
import java.lang.reflect.Method;
import java.lang.reflect.Modifier;
import java.nio.file.Files;
import java.nio.file.Path;
import java.util.Arrays;
import java.util.IdentityHashMap;
import java.util.Set;
import java.util.TreeSet;

/** The face as the document writes it, some of LANGUAGE.md's rules, and how much room the calls take. */
public final class FaceTest {
    private static final Check CHECK = new Check();
    private static final String[] FACE = {"void clear()", "int start()", "int term(int,int,int,int)",
        "int query(int,int,int)", "int solve()", "int complex()", "int real(int)", "int elements()", "int lead(int)",
        "long coefficient(int,int,int,int)", "int standard()", "int monomial(int)", "long table(int,int,int,int)",
        "long form(int,int,int,int)", "int rank(int)", "int signature(int)", "long remainder(int,int)",
        "int member()", "int count(int)", "int at(int,int,int)"};

    public static void main(String[] args) throws Exception {
        members();
        inside();
        words();
        room();
        size();
        CHECK.end();
    }

    private static String written(Method m) {
        StringBuilder s = new StringBuilder(m.getReturnType() + " " + m.getName() + "(");
        for (int k = 0; k < m.getParameterCount(); k++) {
            s.append(k > 0 ? "," : "").append(m.getParameterTypes()[k]);
        }
        return s.append(')').toString();
    }

    private static void members() {
        Set<String> open = new TreeSet<>();
        Set<String> names = new TreeSet<>();
        for (Method m : ConicMeet.class.getDeclaredMethods()) {
            if (!Modifier.isPrivate(m.getModifiers())) {
                open.add(written(m));
                names.add(m.getName());
            }
        }
        CHECK.due("the face " + open, open.equals(new TreeSet<>(Arrays.asList(FACE))) ? 1 : 0, 1);
        for (Method m : ConicMeet.class.getDeclaredMethods()) {
            boolean hidden = Modifier.isPrivate(m.getModifiers());
            CHECK.due("no private method is named " + m.getName(), hidden && names.contains(m.getName()) ? 1 : 0, 0);
        }
        for (Field f : ConicMeet.class.getDeclaredFields()) {
            boolean constant = f.getName().equals("NONE") || f.getName().equals("HUGE");
            CHECK.due("field " + f.getName(), Modifier.isPrivate(f.getModifiers()) ? 0 : 1, constant ? 1 : 0);
            CHECK.due("public " + f.getName(), Modifier.isPublic(f.getModifiers()) ? 1 : 0, constant ? 1 : 0);
        }
        Constructor<?>[] made = ConicMeet.class.getDeclaredConstructors();
        CHECK.due("one constructor", made.length, 1);
        CHECK.due("without parameters", made[0].getParameterCount(), 0);
        CHECK.due("final", Modifier.isFinal(ConicMeet.class.getModifiers()) ? 1 : 0, 1);
    }

    private static void inside() {
        Class<?>[] classes = ConicMeet.class.getDeclaredClasses();
        CHECK.due("at most twelve classes", classes.length < 12 ? 1 : 0, 1);
        for (Class<?> c : classes) {
            CHECK.due(c + " is static", Modifier.isStatic(c.getModifiers()) ? 1 : 0, 1);
            CHECK.due(c + " is not public", Modifier.isPublic(c.getModifiers()) ? 1 : 0, 0);
            CHECK.due(c + " has at most twenty fields", c.getDeclaredFields().length <= 20 ? 1 : 0, 1);
            for (Field f : c.getDeclaredFields()) {
                boolean loose = Modifier.isStatic(f.getModifiers()) && !Modifier.isFinal(f.getModifiers());
                CHECK.due(c + " " + f.getName() + " is no static state", loose ? 1 : 0, 0);
            }
            for (Method m : c.getDeclaredMethods()) {
                CHECK.due(written(m), m.getParameterCount() <= 7 ? 1 : 0, 1);
            }
        }
    }

    private static void words() throws Exception {
        String source = new String(Files.readAllBytes(Path.of("src/main/java/ConicMeet.java")));
        String[] barred = {"import ", "package ", "catch", "finally", "->", "::", "Exact", "BigInteger", "synchronized",
            "assert ", "System.", "equals(", "hashCode", "toString", "double ", "float "};
        for (String word : barred) {
            CHECK.due("'" + word + "' stands in the class", source.contains(word) ? 1 : 0, 0);
        }
    }

    /** Calls make nothing: all rows are made by the constructor. */
    private static void room() {
        com.sun.management.ThreadMXBean bean =
            (com.sun.management.ThreadMXBean) java.lang.management.ManagementFactory.getThreadMXBean();
        long self = Thread.currentThread().getId();
        long least = Long.MAX_VALUE;
        for (int round = 0; round < 5; round++) {
            ConicMeet meet = new ConicMeet();
            long before = bean.getThreadAllocatedBytes(self);
            busy(meet);
            least = Math.min(least, bean.getThreadAllocatedBytes(self) - before);
        }
        CHECK.due("bytes that the calls made: " + least, least < 4096 ? 1 : 0, 1);
    }

    /** The dearest call is the constructor: 512 of them have room among 600,000 objects and 7.3 million elements. */
    private static void size() throws Exception {
        long[] made = new long[2];
        measure(new ConicMeet(), made, new IdentityHashMap<>());
        CHECK.due("objects and arrays of one object: " + made[0], 512 * made[0] < 600000 ? 1 : 0, 1);
        CHECK.due("fields and elements of one object: " + made[1], 512 * made[1] < 7300000 ? 1 : 0, 1);
    }

    private static void measure(Object of, long[] made, IdentityHashMap<Object, Object> seen) throws Exception {
        if (of == null || seen.put(of, of) != null) {
            return;
        }
        made[0]++;
        if (of.getClass().isArray()) {
            made[1] += Array.getLength(of);
            for (int k = 0; k < Array.getLength(of) && of instanceof Object[]; k++) {
                measure(Array.get(of, k), made, seen);
            }
            return;
        }
        for (Field f : of.getClass().getDeclaredFields()) {
            if (!Modifier.isStatic(f.getModifiers())) {
                made[1]++;
                f.setAccessible(true);
                if (!f.getType().isPrimitive()) {
                    measure(f.get(of), made, seen);
                }
            }
        }
    }

    private static void busy(ConicMeet meet) {
        for (int k = 0; k < 40; k++) {
            meet.clear();
            for (int p = 0; p < 2; p++) {
                meet.start();
                for (int i = 0; i < 6; i++) {
                    meet.term(p, Check.A[i], Check.B[i], (k * 7 + p * 5 + i * 3) % 11 - 5);
                }
            }
            meet.query(1, 0, k % 6);
            meet.solve();
            meet.form(2, 1, 1, 0);
            meet.table(0, 1, 1, 1);
            meet.coefficient(0, 1, 0, 1);
        }
    }
}
