import java.nio.charset.StandardCharsets;
import java.nio.file.Files;
import java.nio.file.Path;
import java.util.regex.Matcher;
import java.util.regex.Pattern;

/** The rules of ../shared/LANGUAGE.md that can be read off the program's text. */
public final class LanguageTest {
    private static final String[] RULED_OUT = {
        "^\\s*package\\b", "^\\s*import\\b(?! java\\.util\\.(ArrayList|List|Iterator|Arrays|NoSuchElementException);)",
        "->", "::", "\\bsynchronized\\b", "\\bassert\\b", "\\bfinally\\b", "\\bnative\\b", "\\bvolatile\\b",
        "\\bSystem\\.(?!arraycopy)", "\\bThread\\b", "\\bRandom\\b", "Exact\\b", "\\bString\\.", "\\bMath\\.(?!max|min|abs|floorDiv|floorMod)",
        "\\bObject\\b", "\\bMap\\b", "\\bSet\\b", "\\bvar\\b", "\\bcatch\\b", "\\bthrow\\s+(?!new )", "\\bException\\b",
        "\\bArrayIndexOutOfBounds", "\\bNullPointer", "\\bClassCast", "\\bNegativeArraySize", "\\bArrayStore",
        "\\bstatic\\s*\\{", "\"\\s*\\+", "\\+\\s*\"", "\\bhashCode\\b", "\\btoString\\b", "\\bfor\\s*\\(\\s*;\\s*;", "\\bwhile\\s*\\(true",
    };

    public static void main(String[] args) throws Exception {
        byte[] bytes = Files.readAllBytes(Path.of("src/main/java/BackgroundRebuild.java"));
        for (byte b : bytes) {
            if (b < 1 || b > 126) {
                Checks.due("a sign of the program", (int) b, "1 to 126");
            }
        }
        String source = new String(bytes, StandardCharsets.US_ASCII);
        String code = source.replaceAll("(?s)/\\*.*?\\*/", "").replaceAll("//[^\\n]*", "");
        for (String ruledOut : RULED_OUT) {
            Matcher matcher = Pattern.compile(ruledOut, Pattern.MULTILINE).matcher(code);
            Checks.due("the program has " + ruledOut, matcher.find(), false);
        }
        checkThrows(code);
        Checks.end("LanguageTest");
    }

    private static void checkThrows(String code) {
        Matcher thrown = Pattern.compile("throw new (\\w+)\\(([^)]*)\\)").matcher(code);
        while (thrown.find()) {
            Checks.due(thrown.group(), thrown.group(1).matches(
                    "IllegalStateException|IllegalArgumentException|IndexOutOfBoundsException"), true);
            Checks.due(thrown.group(), thrown.group(2).matches("|\"[^\"]*\""), true);
        }
    }
}
