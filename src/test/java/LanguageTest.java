import java.lang.reflect.Constructor;
import java.lang.reflect.Executable;
import java.lang.reflect.Field;
import java.lang.reflect.Method;
import java.lang.reflect.Modifier;
import java.nio.file.Files;
import java.nio.file.Path;
import java.util.ArrayList;
import java.util.List;
import java.util.Set;
import java.util.regex.Matcher;
import java.util.regex.Pattern;

/** The rules of ../shared/LANGUAGE.md that the text of the class and the compiled class can show. */
public final class LanguageTest {
    private static final Path SOURCE = Path.of("src/main/java/CountedOut.java");
    private static final int PARAMETERS_MOST = 7;
    private static final int METHOD_LINES_MOST = 60;
    private static final int CLASSES_MOST = 12;
    private static final int FIELDS_MOST = 20;
    private static final Set<Class<?>> CONSTANTS = Set.of(int.class, long.class, boolean.class, char.class,
        String.class, int[].class, long[].class, char[].class, byte[].class);
    // The functions of the library that the class may call; java.lang and java.util have no other part in it.
    private static final Set<String> LIBRARY = Set.of("Math.min", "Math.max", "Math.abs", "Math.floorMod",
        "Math.floorDiv", "Integer.bitCount", "Long.bitCount", "System.arraycopy", "Arrays.fill", "Arrays.copyOf");
    private static final Due due = new Due();

    public static void main(String[] args) throws Exception {
        String code = withoutComments(Files.readString(SOURCE));
        forbiddenWords(code);
        libraryCalls(code);
        loopsHaveAnEnd(code);
        methodsAreShort(code);
        // The nest holds local and anonymous classes too, which getDeclaredClasses() leaves out.
        Class<?>[] classes = CountedOut.class.getNestMembers();
        due.holds("rule 11: at most twelve classes", classes.length <= CLASSES_MOST);
        for (Class<?> c : classes) {
            nestedClassIsStatic(c);
            fields(c);
            parameters(c);
        }
        due.end();
    }

    private static String withoutComments(String text) {
        return text.replaceAll("(?s)/\\*.*?\\*/", "").replaceAll("//[^\n]*", "");
    }

    private static void forbiddenWords(String code) {
        String[] words = {"package", "import", "throw", "throws", "try", "catch", "finally", "synchronized", "assert",
            "protected", "native", "volatile", "transient", "hashCode", "getClass", "Object", "Exception", "Thread"};
        for (String word : words) {
            due.holds("rules 1, 4, 6: no " + word, !Pattern.compile("\\b" + word + "\\b").matcher(code).find());
        }
        for (String sign : new String[] {"->", "::", "\"", "static {"}) {
            due.holds("rules 2, 5, 10: no " + sign, !code.contains(sign));
        }
    }

    private static void libraryCalls(String code) {
        Matcher call = Pattern.compile("\\b([A-Z]\\w*\\.\\w+)\\s*\\(").matcher(code);
        while (call.find()) {
            due.holds("rule 4: " + call.group(1), LIBRARY.contains(call.group(1)));
        }
    }

    private static void loopsHaveAnEnd(String code) {
        due.holds("rule 9: no loop for ever", !Pattern.compile("while \\(true\\)|for \\([^;]*; *;").matcher(code).find());
    }

    private static void methodsAreShort(String code) {
        int began = 0;
        String[] lines = code.split("\n");
        Pattern head = Pattern.compile("\\s+(?!.*\\b(class|else|for|while|if|switch|return)\\b).*\\) \\{");
        for (int i = 0; i < lines.length; i++) {
            began = head.matcher(lines[i]).matches() ? i : began;
            due.holds("rule 11: a short method at line " + (began + 1), i - began < METHOD_LINES_MOST || began == 0);
        }
    }

    private static void nestedClassIsStatic(Class<?> c) {
        due.holds("rule 2: " + c.getName() + " is no local class", !c.isLocalClass() && !c.isAnonymousClass());
        if (c != CountedOut.class) {
            int how = c.getModifiers();
            due.holds("rule 1: " + c.getName() + " is static and not public",
                Modifier.isStatic(how) && !Modifier.isPublic(how) && !Modifier.isProtected(how));
        }
    }

    private static void fields(Class<?> c) {
        int own = 0;
        for (Field f : c.getDeclaredFields()) {
            if (!Modifier.isStatic(f.getModifiers())) {
                own++;
                continue;
            }
            due.holds("rule 5: " + f + " is a constant",
                Modifier.isFinal(f.getModifiers()) && CONSTANTS.contains(f.getType()));
        }
        due.holds("rule 11: fields of " + c.getName(), own <= FIELDS_MOST);
    }

    private static void parameters(Class<?> c) {
        List<Executable> all = new ArrayList<>();
        all.addAll(List.<Method>of(c.getDeclaredMethods()));
        all.addAll(List.<Constructor<?>>of(c.getDeclaredConstructors()));
        for (Executable e : all) {
            due.holds("rule 11: parameters of " + e, e.getParameterCount() <= PARAMETERS_MOST);
            due.holds("rule 2: " + e + " is written in the class", !e.isSynthetic());
        }
    }
}
