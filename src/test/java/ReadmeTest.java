import java.io.IOException;
import java.lang.reflect.InvocationTargetException;
import java.lang.reflect.Method;
import java.lang.reflect.Modifier;
import java.nio.charset.StandardCharsets;
import java.nio.file.Files;
import java.nio.file.Path;
import java.util.ArrayList;
import java.util.Collections;
import java.util.List;
import java.util.TreeSet;
import java.util.regex.Matcher;
import java.util.regex.Pattern;

/** What README.md shows of calls, answers and exceptions is what the class does; its example and its commands run. */
public final class ReadmeTest {
    private static final String NEW_OBJECT = "BackgroundRebuild x = new BackgroundRebuild();";
    private static final Pattern BLOCK = Pattern.compile("(?ms)^```(\\w+)\\n(.*?)^```$");
    private static final Pattern SHOWN = Pattern.compile("x\\.(\\w+)\\((.*)\\); +// ((throws )?[\\w.]+)(: .*)?");
    private static final Pattern ROW = Pattern.compile("\\| `(\\w+)\\((.*)\\)`( \\*)? \\| .+ \\|(.*) \\|");
    private static final Pattern EXCEPTION = Pattern.compile("`(\\w+Exception)`");
    private static final String UNDOABLE = "[abandon, add, begin, execute, goBack, idle, remove, set]";

    private static final TreeSet<String> shownCalls = new TreeSet<>();

    public static void main(String[] args) throws Exception {
        String page = Files.readString(Path.of("README.md"));
        showCalls(page);
        tableOfAllCalls(page);
        commands(page);
        Checks.end("ReadmeTest");
    }

    private static List<String> blocks(String page, String language) {
        List<String> found = new ArrayList<>();
        Matcher block = BLOCK.matcher(page);
        while (block.find()) {
            if (block.group(1).equals(language)) {
                found.add(block.group(2));
            }
        }
        return found;
    }

    private static List<Method> face() {
        List<Method> face = new ArrayList<>();
        for (Method method : BackgroundRebuild.class.getDeclaredMethods()) {
            if (Modifier.isPublic(method.getModifiers())) {
                face.add(method);
            }
        }
        return face;
    }

    // ---- the calls that are shown with their answers

    private static void showCalls(String page) throws IllegalAccessException {
        for (String block : blocks(page, "java")) {
            String[] lines = block.split("\n");
            if (lines[0].equals(NEW_OBJECT)) {
                BackgroundRebuild x = new BackgroundRebuild();
                for (int i = 1; i < lines.length; i++) {
                    showCall(x, lines[i]);
                }
            }
        }
        TreeSet<String> names = new TreeSet<>();
        for (Method method : face()) {
            names.add(method.getName());
        }
        Checks.due("the calls that are shown", shownCalls, names);
    }

    private static void showCall(BackgroundRebuild x, String line) throws IllegalAccessException {
        Matcher shown = SHOWN.matcher(line);
        Checks.due("a call and its answer: " + line, shown.matches(), true);
        if (shown.matches()) {
            shownCalls.add(shown.group(1));
            String due = shown.group(3).equals("NONE") ? "-1" : shown.group(3);
            Checks.due(line, answer(x, shown.group(1), shown.group(2)), due);
        }
    }

    private static String answer(BackgroundRebuild x, String name, String arguments) throws IllegalAccessException {
        Object[] values = valuesOf(arguments);
        for (Method method : face()) {
            if (method.getName().equals(name) && method.getParameterCount() == values.length) {
                try {
                    return method.invoke(x, values).toString();
                } catch (InvocationTargetException e) {
                    return "throws " + e.getCause().getClass().getSimpleName();
                }
            }
        }
        return "is not there";
    }

    private static Object[] valuesOf(String arguments) {
        String[] texts = arguments.isEmpty() ? new String[0] : arguments.split(", ");
        Object[] values = new Object[texts.length];
        for (int i = 0; i < texts.length; i++) {
            if (texts[i].equals("true") || texts[i].equals("false")) {
                values[i] = texts[i].equals("true");
            } else {
                values[i] = texts[i].startsWith("'") ? (int) texts[i].charAt(1) : Integer.parseInt(texts[i]);
            }
        }
        return values;
    }

    // ---- the table of all calls

    private static String signature(String name, int parameters, List<String> exceptions) {
        return name + " " + parameters + " " + exceptions;
    }

    private static void tableOfAllCalls(String page) {
        List<String> due = new ArrayList<>();
        for (Method method : face()) {
            List<String> exceptions = new ArrayList<>();
            for (Class<?> exception : method.getExceptionTypes()) {
                exceptions.add(exception.getSimpleName());
            }
            due.add(signature(method.getName(), method.getParameterCount(), exceptions));
        }
        List<String> rows = new ArrayList<>();
        TreeSet<String> undoable = new TreeSet<>();
        for (String line : page.split("\n")) {
            Matcher row = ROW.matcher(line);
            if (row.matches()) {
                int parameters = row.group(2).isEmpty() ? 0 : row.group(2).split(",").length;
                rows.add(signature(row.group(1), parameters, exceptionsIn(row.group(4))));
                if (row.group(3) != null) {
                    undoable.add(row.group(1));
                }
            }
        }
        Collections.sort(due);
        Collections.sort(rows);
        Checks.due("the table of all calls", rows, due);
        Checks.due("the calls marked with *", undoable.toString(), UNDOABLE);
    }

    private static List<String> exceptionsIn(String text) {
        List<String> exceptions = new ArrayList<>();
        Matcher exception = EXCEPTION.matcher(text);
        while (exception.find()) {
            exceptions.add(exception.group(1));
        }
        return exceptions;
    }

    // ---- the example and the commands

    /**
     * The commands run in a folder of their own that shows this project's src.
     * Not those that run this test again, nor those that name files of others.
     */
    private static void commands(String page) throws IOException, InterruptedException {
        Path folder = Files.createTempDirectory("readme");
        Files.createSymbolicLink(folder.resolve("src"), Path.of("src").toAbsolutePath());
        int ran = 0;
        for (String commands : blocks(page, "sh")) {
            if (commands.contains(" Example\n")) {
                Files.writeString(folder.resolve("Example.java"), exampleOf(page));
                Checks.due(commands, outputOf(folder, commands), "0\n" + blocks(page, "text").get(0));
                ran++;
            } else if (commands.contains(" PromiseTest\n")) {
                Checks.due(commands, outputOf(folder, commands).matches("0\nPromiseTest: \\d+ checks, 0 wrong\n"), true);
                ran++;
            }
        }
        Checks.due("the blocks of commands that ran", ran, 2);
        removeAll(folder);
    }

    private static String exampleOf(String page) {
        for (String block : blocks(page, "java")) {
            if (block.startsWith("public final class Example ")) {
                return block;
            }
        }
        return "";
    }

    /** The exit code and what the commands print; they stop at the first one that fails. */
    private static String outputOf(Path folder, String commands) throws IOException, InterruptedException {
        Process process = new ProcessBuilder("sh", "-e", "-c", commands).directory(folder.toFile())
                .redirectError(ProcessBuilder.Redirect.INHERIT).start();
        String output = new String(process.getInputStream().readAllBytes(), StandardCharsets.UTF_8);
        return process.waitFor() + "\n" + output;
    }

    private static void removeAll(Path folder) throws IOException {
        List<Path> paths = new ArrayList<>();
        try (var walk = Files.walk(folder)) {
            walk.forEach(paths::add);
        }
        Collections.reverse(paths);
        for (Path path : paths) {
            Files.delete(path);
        }
    }
}
