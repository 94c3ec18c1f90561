import java.io.IOException;
import java.lang.reflect.Executable;
import java.lang.reflect.Field;
import java.lang.reflect.Method;
import java.lang.reflect.Modifier;
import java.nio.file.Files;
import java.nio.file.Path;
import java.util.ArrayList;
import java.util.Arrays;
import java.util.HashSet;
import java.util.LinkedHashMap;
import java.util.List;
import java.util.Map;
import java.util.Set;
import java.util.regex.Matcher;
import java.util.regex.Pattern;

/** Those rules of ../shared/LANGUAGE.md that can be told from words of the source and from its classes. */
public final class LanguageTest {
    private static final Path SOURCE = Path.of("src/main/java/StampWorks.java");
    private static final Pattern COMMENT_OR_TEXT = Pattern.compile("/\\*.*?\\*/|//[^\\n]*|\"[^\"\\n]*\"", Pattern.DOTALL);
    // Some of these the rules allow in their place; the class does without them.
    private static final String[] NEVER = {
        "\\b(package|import|finally|synchronized|assert|volatile|native|instanceof|catch|try)\\b",
        "->", "::", "\\bstatic\\s*\\{", "Exact\\s*\\(",
        "\\b(equals|hashCode|toString|getMessage|currentTimeMillis|nanoTime|random)\\s*\\(",
    };
    // The class uses no more of the library than these.
    private static final Set<String> LIBRARY = Set.of("Math.min", "Math.max", "Math.floorMod", "System.arraycopy");
    private static final Set<Class<?>> CONSTANTS = Set.of(int.class, long.class);
    private static final int CALLS_DEEP = 8;
    private static final Pattern HEAD = Pattern.compile("( {4}| {8})[A-Za-z][^=]*\\).*(?<!;)");
    private static final Pattern STATEMENT = Pattern.compile(" +(if|for|while|switch|return|throw)\\b.*");
    private static final Pattern CALL = Pattern.compile("\\b(\\w+)\\(");
    private static final Pattern MADE = Pattern.compile("(?<!throw )\\bnew \\w+");

    private static final Checks CHECKS = new Checks();

    public static void main(String[] args) throws IOException {
        String code = COMMENT_OR_TEXT.matcher(Files.readString(SOURCE)).replaceAll(" ");
        for (String never : NEVER) {
            CHECKS.due("rules 3 to 6: code with " + never, Pattern.compile(never).matcher(code).find(), false);
        }
        CHECKS.due("rule 4: library", LIBRARY.containsAll(libraryOf(code)), true);
        List<Class<?>> classes = new ArrayList<>(Arrays.asList(StampWorks.class.getDeclaredClasses()));
        CHECKS.due("rule 11: some twelve classes", classes.size() < 12, true);
        classes.add(StampWorks.class);
        for (Class<?> type : classes) {
            fieldsOf(type);
            methodsOf(type);
        }
        Map<String, List<String>> bodies = bodiesOf(code.lines().toList());
        for (String name : bodies.keySet()) {
            CHECKS.due("rule 11: sixty lines of " + name, bodies.get(name).size() <= 60, true);
            CHECKS.due("rule 11: eight calls deep from " + name, depthOf(name, bodies, 1) <= CALLS_DEEP, true);
            thrownAndMade(name, String.join("\n", bodies.get(name)));
        }
        CHECKS.end();
    }

    private static Set<String> libraryOf(String code) {
        Set<String> used = new HashSet<>();
        Matcher matcher = Pattern.compile("\\b[A-Z][a-z]\\w*\\.\\w+").matcher(code);
        while (matcher.find()) {
            used.add(matcher.group());
        }
        return used;
    }

    private static void fieldsOf(Class<?> type) {
        int own = 0;
        for (Field field : type.getDeclaredFields()) {
            if (Modifier.isStatic(field.getModifiers())) {
                boolean constant = Modifier.isFinal(field.getModifiers()) && CONSTANTS.contains(field.getType());
                CHECKS.due("rule 5: " + field + " is a constant", constant, true);
            } else {
                own++;
            }
        }
        CHECKS.due("rule 11: some twenty fields of " + type, own <= 20, true);
    }

    private static void methodsOf(Class<?> type) {
        Set<String> face = new HashSet<>();
        for (Method method : StampWorks.class.getMethods()) {
            face.add(method.getName());
        }
        for (Method method : type.getDeclaredMethods()) {
            parametersOf(method);
            if (!Modifier.isPublic(method.getModifiers())) {
                CHECKS.due("rule 1: " + method + " bears a name of the face", face.contains(method.getName()), false);
            }
        }
    }

    private static void parametersOf(Executable executable) {
        CHECKS.due("rule 11: seven parameters of " + executable, executable.getParameterCount() <= 7, true);
    }

    /** Methods and constructors by their names: all below the head, which ends with a brace indented like it. */
    private static Map<String, List<String>> bodiesOf(List<String> lines) {
        Map<String, List<String>> bodies = new LinkedHashMap<>();
        for (int i = 0; i < lines.size(); i++) {
            Matcher head = HEAD.matcher(lines.get(i));
            Matcher name = CALL.matcher(lines.get(i));
            if (head.matches() && name.find() && !STATEMENT.matcher(lines.get(i)).matches()) {
                int length = lines.subList(i, lines.size()).indexOf(head.group(1) + "}");
                CHECKS.due("end of " + name.group(1), length > 0, true);
                List<String> body = lines.subList(i + 1, i + Math.max(1, length));
                CHECKS.due("a name of its own for " + name.group(1), bodies.put(name.group(1), body) == null, true);
            }
        }
        CHECKS.due("the face among the bodies", bodies.containsKey("digest"), true);
        return bodies;
    }

    /** How many calls stand open at once below this one; what goes round and round is told as too deep. */
    private static int depthOf(String name, Map<String, List<String>> bodies, int depth) {
        int deepest = depth;
        if (depth > CALLS_DEEP || !bodies.containsKey(name)) {
            return deepest;
        }
        Matcher call = CALL.matcher(String.join("\n", bodies.get(name)));
        while (call.find()) {
            deepest = Math.max(deepest, depthOf(call.group(1), bodies, depth + 1));
        }
        return deepest;
    }

    /** Constructors make and do not throw; methods make nothing but what they throw. */
    private static void thrownAndMade(String name, String body) {
        if (Character.isUpperCase(name.charAt(0))) {
            CHECKS.due("rule 6: a throw in the constructor " + name, body.contains("throw "), false);
        } else {
            CHECKS.due("rule 12: something made in " + name, MADE.matcher(body).find(), false);
        }
    }
}
