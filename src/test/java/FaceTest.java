import java.lang.reflect.Constructor;
import java.lang.reflect.Executable;
import java.lang.reflect.Field;
import java.lang.reflect.Method;
import java.lang.reflect.Modifier;
import java.util.Set;
import java.util.TreeSet;

/** The public face is that of the document, and nothing else of the class can be seen. */
public final class FaceTest {
    private static final String[] FACE = {
        "StampWorks()",
        "int setInflow(int,int) IndexOutOfBoundsException IllegalArgumentException",
        "int setSluice(int) IllegalArgumentException",
        "int addBox() IllegalStateException",
        "int hang(int,int,int) IndexOutOfBoundsException IllegalArgumentException IllegalStateException",
        "int shoe(int,int) IndexOutOfBoundsException",
        "int setBox(int,int,int) IndexOutOfBoundsException IllegalArgumentException",
        "int box(int,int) IndexOutOfBoundsException",
        "int bring(int,int,int) IllegalArgumentException IllegalStateException",
        "int lot(int,int) IndexOutOfBoundsException",
        "int run(int) IllegalArgumentException IllegalStateException",
        "int count(int) IndexOutOfBoundsException",
        "int buddle(int,int) IndexOutOfBoundsException",
        "int wash(int,int) IndexOutOfBoundsException IllegalArgumentException IllegalStateException",
        "int again(int) IndexOutOfBoundsException",
        "int smelt(int) IllegalArgumentException IllegalStateException",
        "int foresee(int,int) IllegalArgumentException IndexOutOfBoundsException IllegalStateException",
        "int advise(int) IllegalArgumentException IllegalStateException",
        "int bestWater(int,int) IndexOutOfBoundsException IllegalArgumentException",
        "double share()",
        "long digest()",
    };

    public static void main(String[] args) {
        Checks checks = new Checks();
        Class<?> type = StampWorks.class;
        checks.due("modifiers", type.getModifiers(), Modifier.PUBLIC | Modifier.FINAL);
        checks.due("face", faceOf(type), new TreeSet<>(Set.of(FACE)));
        for (Field field : type.getDeclaredFields()) {
            checks.due(field + " is private", Modifier.isPrivate(field.getModifiers()), true);
            checks.due(field + " is final", Modifier.isFinal(field.getModifiers()), true);
        }
        for (Class<?> inside : type.getDeclaredClasses()) {
            int modifiers = inside.getModifiers();
            checks.due(inside + " is static", Modifier.isStatic(modifiers), true);
            checks.due(inside + " is hidden", (modifiers & (Modifier.PUBLIC | Modifier.PROTECTED)) == 0, true);
        }
        checks.end();
    }

    private static Set<String> faceOf(Class<?> type) {
        Set<String> face = new TreeSet<>();
        for (Constructor<?> constructor : type.getDeclaredConstructors()) {
            if (!Modifier.isPrivate(constructor.getModifiers())) {
                face.add(told(constructor, "StampWorks"));
            }
        }
        for (Method method : type.getDeclaredMethods()) {
            if (!Modifier.isPrivate(method.getModifiers()) && !method.isSynthetic()) {
                face.add(told(method, method.getReturnType().getSimpleName() + " " + method.getName()));
            }
        }
        return face;
    }

    private static String told(Executable executable, String start) {
        StringBuilder text = new StringBuilder();
        text.append(Modifier.isPublic(executable.getModifiers()) ? "" : "not public: ").append(start).append('(');
        String between = "";
        for (Class<?> parameter : executable.getParameterTypes()) {
            text.append(between).append(parameter.getSimpleName());
            between = ",";
        }
        text.append(')');
        for (Class<?> thrown : executable.getExceptionTypes()) {
            text.append(' ').append(thrown.getSimpleName());
        }
        return text.toString();
    }
}
