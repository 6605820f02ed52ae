import java.lang.reflect.InvocationTargetException;
import java.lang.reflect.Method;
import java.lang.reflect.Modifier;
import java.nio.file.Files;
import java.nio.file.Path;
import java.util.HashMap;
import java.util.Map;
import java.util.Set;
import java.util.TreeSet;
import java.util.regex.Matcher;
import java.util.regex.Pattern;

/**
 * README.md's examples, each line in a block of java: the first word of its comment is the answer that the class must
 * give (an exception's name: that the call throws). All calls of the face come in them and in the table of calls.
 */
public final class ReadmeTest {
    private static final Check CHECK = new Check();
    private static final Pattern NEW = Pattern.compile("ConicMeet meet = new ConicMeet\\(\\);");
    private static final Pattern CALL =
        Pattern.compile("(?:int (\\w+) = )?meet\\.(\\w+)\\(([^()]*)\\);(?: +// ([-\\w]+)(?:$|:.*))?");
    private static final Map<String, Integer> NAMES = new HashMap<>();
    private static final Set<String> CALLED = new TreeSet<>();
    private static ConicMeet meet = null;

    public static void main(String[] args) throws Exception {
        String readme = new String(Files.readAllBytes(Path.of("README.md")));
        boolean inside = false;
        for (String line : readme.split("\n")) {
            if (line.startsWith("```")) {
                inside = line.equals("```java");
            } else if (inside) {
                read(line);
            }
        }
        for (Method m : ConicMeet.class.getDeclaredMethods()) {
            if (Modifier.isPublic(m.getModifiers())) {
                CHECK.due("an example of " + m.getName(), CALLED.contains(m.getName()) ? 1 : 0, 1);
                boolean listed = readme.contains("\n| `" + m.getName() + "(");
                CHECK.due("the table of calls has " + m.getName(), listed ? 1 : 0, 1);
            }
        }
        CHECK.end();
    }

    private static void read(String line) throws Exception {
        Matcher call = CALL.matcher(line);
        if (NEW.matcher(line).matches()) {
            meet = new ConicMeet();
            NAMES.clear();
            NAMES.put("ConicMeet.NONE", ConicMeet.NONE);
        } else if (call.matches()) {
            String got = answer(call.group(2), call.group(3).trim());
            String want = call.group(4) == null ? "null" : call.group(4);
            CHECK.due(line, got, want.equals("NONE") ? "-1" : want.equals("HUGE") ? "" + Long.MIN_VALUE : want);
            if (call.group(1) != null) {
                NAMES.put(call.group(1), Integer.valueOf(got));
            }
        } else {
            CHECK.due("a line that is no call: " + line, 1, 0);
        }
    }

    private static String answer(String name, String list) throws Exception {
        String[] words = list.isEmpty() ? new String[0] : list.split(", ");
        Object[] values = new Object[words.length];
        for (int k = 0; k < words.length; k++) {
            values[k] = NAMES.containsKey(words[k]) ? NAMES.get(words[k]) : Integer.valueOf(words[k]);
        }
        CALLED.add(name);
        for (Method m : ConicMeet.class.getDeclaredMethods()) {
            if (m.getName().equals(name) && Modifier.isPublic(m.getModifiers())) {
                try {
                    return String.valueOf(m.invoke(meet, values));
                } catch (InvocationTargetException e) {
                    return e.getCause().getClass().getSimpleName();
                }
            }
        }
        return "no such call";
    }
}
