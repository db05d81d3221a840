import java.lang.reflect.Constructor;
import java.lang.reflect.Field;
import java.lang.reflect.Method;
import java.lang.reflect.Modifier;
import java.util.TreeSet;

/** The public face: its signatures with their throws clauses, and nothing beside them. */
public final class FaceTest {
    private static final String[] FACE = {
        "int add(int) IllegalArgumentException IllegalStateException",
        "int remove(int) IllegalArgumentException",
        "int idle()",
        "int begin() IllegalStateException",
        "int abandon() IllegalStateException",
        "int set(int,int) IndexOutOfBoundsException IllegalArgumentException",
        "int append(int) IllegalArgumentException IllegalStateException",
        "int clearBuffer()",
        "int firstError()",
        "int execute() IllegalArgumentException",
        "int undo() IllegalStateException",
        "int keep(int) IllegalArgumentException",
        "int goBack(int) IllegalArgumentException IllegalStateException",
        "boolean contains(int) IllegalArgumentException",
        "int near(int,int) IllegalArgumentException",
        "int rank(int) IllegalArgumentException",
        "int keyAt(int) IllegalArgumentException",
        "int node(boolean,int,int) IllegalArgumentException",
        "int path(int,int) IllegalArgumentException",
        "int tree(boolean,int) IllegalArgumentException",
        "int rebuild(int) IllegalArgumentException",
        "int queued(int) IllegalArgumentException",
        "int count(int) IllegalArgumentException",
        "int setting(int) IndexOutOfBoundsException",
        "int untilExchange(int) IllegalArgumentException",
        "int longest(int) IllegalArgumentException",
        "int leastSpeed(int) IllegalArgumentException",
        "double meanDepth()",
    };

    public static void main(String[] args) {
        Class<?> face = BackgroundRebuild.class;
        Checks.due("modifiers", face.getModifiers(), Modifier.PUBLIC | Modifier.FINAL);
        Checks.due("constructors", face.getDeclaredConstructors().length, 1);
        for (Constructor<?> made : face.getDeclaredConstructors()) {
            Checks.due("constructor", made.getParameterCount() + " " + Modifier.toString(made.getModifiers()), "0 public");
        }
        checkFields(face);
        checkMethods(face);
        for (Class<?> inside : face.getDeclaredClasses()) {
            int modifiers = inside.getModifiers();
            Checks.due(inside + " is static", Modifier.isStatic(modifiers), true);
            Checks.due(inside + " is hidden", Modifier.isPublic(modifiers) || Modifier.isProtected(modifiers), false);
        }
        Checks.end("FaceTest");
    }

    private static void checkFields(Class<?> face) {
        int open = 0;
        for (Field field : face.getDeclaredFields()) {
            if (!Modifier.isPrivate(field.getModifiers())) {
                open++;
                Checks.due("field", Modifier.toString(field.getModifiers()) + " " + field.getType() + " " + field.getName(),
                        "public static final int NONE");
            }
            if (Modifier.isStatic(field.getModifiers())) {
                Checks.due(field + " is final", Modifier.isFinal(field.getModifiers()), true);
            }
        }
        Checks.due("constants", open, 1);
        Checks.due("NONE", BackgroundRebuild.NONE, -1);
    }

    private static void checkMethods(Class<?> face) {
        TreeSet<String> want = new TreeSet<>();
        TreeSet<String> names = new TreeSet<>();
        for (String signature : FACE) {
            want.add(signature);
            names.add(signature.substring(signature.indexOf(' ') + 1, signature.indexOf('(')));
        }
        TreeSet<String> got = new TreeSet<>();
        for (Method method : face.getDeclaredMethods()) {
            if (Modifier.isPrivate(method.getModifiers())) {
                Checks.due("private " + method.getName() + " has a public name", names.contains(method.getName()), false);
            } else {
                got.add(signatureOf(method));
                Checks.due(method + " is public", Modifier.toString(method.getModifiers()), "public");
            }
        }
        for (Class<?> inside : face.getDeclaredClasses()) {
            for (Method method : inside.getDeclaredMethods()) {
                Checks.due(method + " has a public name", names.contains(method.getName()), false);
            }
        }
        Checks.due("methods", got, want);
    }

    private static String signatureOf(Method method) {
        StringBuilder text = new StringBuilder();
        text.append(method.getReturnType()).append(' ').append(method.getName()).append('(');
        for (int i = 0; i < method.getParameterCount(); i++) {
            text.append(i == 0 ? "" : ",").append(method.getParameterTypes()[i]);
        }
        text.append(')');
        for (Class<?> thrown : method.getExceptionTypes()) {
            text.append(' ').append(thrown.getSimpleName());
        }
        return text.toString();
    }
}
