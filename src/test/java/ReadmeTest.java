import java.lang.reflect.Method;
import java.nio.file.Files;
import java.nio.file.Path;
import java.util.List;
import java.util.Set;
import java.util.TreeSet;
import java.util.regex.Matcher;
import java.util.regex.Pattern;

/** README.md says how to use the class: its example names every call, and each answers what stands behind it. */
public final class ReadmeTest {
    private static final Pattern CALL = Pattern.compile("x\\.(\\w+)\\((.*)\\);\\s*// (-?\\d+)\\b.*");
    private static final Due due = new Due();

    public static void main(String[] args) throws Exception {
        List<String> lines = Files.readAllLines(Path.of("README.md"));
        due.is("calls of the example that are not told", publicNames().size() - told(lines).size(), 0);
        due.holds("the table tells every call", tableNames(lines).equals(publicNames()));
        due.end();
    }

    private static Set<String> publicNames() {
        Set<String> names = new TreeSet<>();
        for (Method m : CountedOut.class.getMethods()) {
            if (m.getDeclaringClass() == CountedOut.class) {
                names.add(m.getName());
            }
        }
        return names;
    }

    /** Asks one object the calls of the example, in their order: the names of those asked. */
    private static Set<String> told(List<String> lines) throws Exception {
        Set<String> names = new TreeSet<>();
        CountedOut x = new CountedOut();
        for (String line : lines) {
            Matcher call = CALL.matcher(line);
            if (call.matches()) {
                Method m = named(call.group(1));
                Number got = (Number) m.invoke(x, values(m, call.group(2)));
                due.is("README.md: " + line, got.longValue(), Long.parseLong(call.group(3)));
                names.add(m.getName());
            } else {
                due.holds("README.md, a call with its answer: " + line, !line.startsWith("x."));
            }
        }
        return names;
    }

    private static Method named(String name) {
        for (Method m : CountedOut.class.getMethods()) {
            if (m.getName().equals(name)) {
                return m;
            }
        }
        throw new IllegalArgumentException("README.md: there is no " + name);
    }

    private static Object[] values(Method m, String text) {
        Class<?>[] types = m.getParameterTypes();
        String[] parts = text.isEmpty() ? new String[0] : text.split(", ");
        if (parts.length != types.length) {
            throw new IllegalArgumentException("README.md: " + m.getName() + "(" + text + ")");
        }
        Object[] values = new Object[types.length];
        for (int i = 0; i < types.length; i++) {
            values[i] = value(types[i], parts[i]);
        }
        return values;
    }

    private static Object value(Class<?> type, String text) {
        if (type == boolean.class) {
            return text.equals("true");
        }
        String digits = text.replace("L", "");
        long v = digits.startsWith("0b") ? Long.parseLong(digits.substring(2), 2) : Long.parseLong(digits);
        if (type == int.class) {
            return Math.toIntExact(v);
        }
        return v;
    }

    private static Set<String> tableNames(List<String> lines) {
        Set<String> names = new TreeSet<>();
        for (String line : lines) {
            if (line.startsWith("| `") && line.contains("(") && line.indexOf('(') < line.indexOf('`', 3)) {
                names.add(line.substring(3, line.indexOf('(')));
            }
        }
        return names;
    }
}
