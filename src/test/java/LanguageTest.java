import java.lang.reflect.Field;
import java.lang.reflect.Method;
import java.lang.reflect.Modifier;
import java.nio.charset.StandardCharsets;
import java.nio.file.Files;
import java.nio.file.Path;
import java.util.regex.Matcher;
import java.util.regex.Pattern;

/** The rules of ../shared/LANGUAGE.md that can be read off the program's text. */
public final class LanguageTest {
    private static final String[] RULED_OUT = {
        "^\\s*package\\b", "^\\s*import\\b(?! java\\.util\\.(ArrayList|List|Iterator|Arrays|NoSuchElementException);)",
        "->", "::", "\\bsynchronized\\b", "\\bassert\\b", "\\bfinally\\b", "\\bnative\\b", "\\bvolatile\\b",
        "\\bSystem\\.(?!arraycopy)", "\\bThread\\b", "\\bRandom\\b", "Exact\\b", "\\bString\\.", "\\bMath\\.(?!max|min|abs|floorDiv|floorMod)",
        "\\bObject\\b", "\\bMap\\b", "\\bSet\\b", "\\bvar\\b", "\\bcatch\\b", "\\bthrow\\s+(?!new )", "\\bException\\b",
        "\\bArrayIndexOutOfBounds", "\\bNullPointer", "\\bClassCast", "\\bNegativeArraySize", "\\bArrayStore",
        "\\bstatic\\s*\\{", "\"\\s*\\+", "\\+\\s*\"", "\\bhashCode\\b", "\\btoString\\b", "\\bfor\\s*\\(\\s*;\\s*;", "\\bwhile\\s*\\(true",
    };

    public static void main(String[] args) throws Exception {
        byte[] bytes = Files.readAllBytes(Path.of("src/main/java/BackgroundRebuild.java"));
        for (byte b : bytes) {
            if (b < 1 || b > 126) {
                Checks.due("a sign of the program", (int) b, "1 to 126");
            }
        }
        String source = new String(bytes, StandardCharsets.US_ASCII);
        String code = source.replaceAll("(?s)/\\*.*?\\*/", "").replaceAll("//[^\\n]*", "");
        for (String ruledOut : RULED_OUT) {
            Matcher matcher = Pattern.compile(ruledOut, Pattern.MULTILINE).matcher(code);
            Checks.due("the program has " + ruledOut, matcher.find(), false);
        }
        checkThrows(code);
        checkLengths(code.split("\n"));
        Class<?>[] inside = BackgroundRebuild.class.getDeclaredClasses();
        Checks.due("at most twelve classes", inside.length < 12, true);
        checkClass(BackgroundRebuild.class);
        for (Class<?> one : inside) {
            checkClass(one);
        }
        Checks.end("LanguageTest");
    }

    /** Rules 5 and 11: final static fields, at most twenty other fields, at most seven parameters. */
    private static void checkClass(Class<?> one) {
        int fields = 0;
        for (Field field : one.getDeclaredFields()) {
            boolean constant = Modifier.isStatic(field.getModifiers());
            fields += constant ? 0 : 1;
            Checks.due(field + " is static, but not final", constant && !Modifier.isFinal(field.getModifiers()), false);
        }
        Checks.due(one + " has at most twenty fields", fields <= 20, true);
        for (Method method : one.getDeclaredMethods()) {
            Checks.due(method + " has at most seven parameters", method.getParameterCount() <= 7, true);
        }
    }

    /** Rule 11: methods of at most sixty lines. */
    private static void checkLengths(String[] lines) {
        for (int from = 0; from < lines.length; from++) {
            Matcher head = Pattern.compile("( +)[^ ].*\\) (throws .*)?\\{").matcher(lines[from]);
            if (head.matches()) {
                int to = from;
                while (to < lines.length && !lines[to].equals(head.group(1) + "}")) {
                    to++;
                }
                Checks.due(lines[from].trim() + " has at most sixty lines", to - from < 60, true);
            }
        }
    }

    private static void checkThrows(String code) {
        Matcher thrown = Pattern.compile("throw new (\\w+)\\(([^)]*)\\)").matcher(code);
        while (thrown.find()) {
            Checks.due(thrown.group(), thrown.group(1).matches(
                    "IllegalStateException|IllegalArgumentException|IndexOutOfBoundsException"), true);
            Checks.due(thrown.group(), thrown.group(2).matches("|\"[^\"]*\""), true);
        }
    }
}
