import java.lang.reflect.Constructor;
import java.lang.reflect.Field;
import java.lang.reflect.Method;
import java.lang.reflect.Modifier;
import java.util.Set;
import java.util.TreeSet;

/** Promise 1 and the public face: just the members of the document, and nothing else to be seen. */
public final class FaceTest {
    private static final Due due = new Due();
    private static final String[] METHODS = {
        "long goes(long, int, long)", "long turn(long, int, long)", "long last(long, int)",
        "int first(int, int, int)", "int least(int, int)", "int ring(int)", "int lives(int, int)",
        "int set(int, int)", "int words(int, int, int, int, int, boolean)", "int count(int)",
        "int turns(int)", "int back(int)", "int about(int, int)", "int told(int)",
        "int may(int, int)", "int can(int, int, int)", "long trace()",
    };

    public static void main(String[] args) {
        due.is("the class is public and final",
            CountedOut.class.getModifiers() & (Modifier.PUBLIC | Modifier.FINAL), Modifier.PUBLIC | Modifier.FINAL);
        constants();
        constructor();
        methods();
        due.end();
    }

    private static void constants() {
        due.is("BAD", CountedOut.BAD, -1);
        due.is("STATE", CountedOut.STATE, -2);
        due.is("FULL", CountedOut.FULL, -3);
        due.is("NONE", CountedOut.NONE, -9);
        Set<String> seen = new TreeSet<>();
        for (Field f : CountedOut.class.getDeclaredFields()) {
            if (!Modifier.isPrivate(f.getModifiers())) {
                seen.add(f.getName());
            }
        }
        due.holds("fields that are seen: " + seen, seen.equals(Set.of("BAD", "STATE", "FULL", "NONE")));
    }

    private static void constructor() {
        Constructor<?>[] all = CountedOut.class.getDeclaredConstructors();
        due.is("constructors", all.length, 1);
        due.holds("a public constructor of nothing",
            Modifier.isPublic(all[0].getModifiers()) && all[0].getParameterCount() == 0);
    }

    private static void methods() {
        Set<String> seen = new TreeSet<>();
        Set<String> publicNames = new TreeSet<>();
        for (Method m : CountedOut.class.getDeclaredMethods()) {
            if (!Modifier.isPrivate(m.getModifiers())) {
                due.holds(m.getName() + " is public", Modifier.isPublic(m.getModifiers()));
                seen.add(signature(m));
                publicNames.add(m.getName());
            }
        }
        due.holds("methods that are seen: " + seen, seen.equals(Set.of(METHODS)));
        for (Method m : CountedOut.class.getDeclaredMethods()) {
            if (Modifier.isPrivate(m.getModifiers())) {
                due.holds("private " + m.getName() + " has a name of its own", !publicNames.contains(m.getName()));
            }
        }
    }

    private static String signature(Method m) {
        StringBuilder text = new StringBuilder(m.getReturnType().getName()).append(' ').append(m.getName()).append('(');
        for (Class<?> type : m.getParameterTypes()) {
            text.append(text.charAt(text.length() - 1) == '(' ? "" : ", ").append(type.getName());
        }
        return text.append(')').toString();
    }
}
