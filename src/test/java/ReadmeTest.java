import java.io.IOException;
import java.lang.reflect.Field;
import java.lang.reflect.Method;
import java.lang.reflect.Modifier;
import java.nio.file.DirectoryStream;
import java.nio.file.Files;
import java.nio.file.Path;
import java.util.ArrayList;
import java.util.List;
import java.util.Set;
import java.util.TreeSet;
import java.util.regex.Matcher;
import java.util.regex.Pattern;

/** README.md holds what is true: its examples are made and answer as it says. Run from the project's folder. */
public final class ReadmeTest {
    private static final Path PAGE = Path.of("README.md");
    private static final Path TESTS = Path.of("src/test/java");
    private static final Pattern BLOCK = Pattern.compile("(?s)```java\n(.*?)```");
    private static final Pattern MADE = Pattern.compile("ForgettingLines lines = new ForgettingLines\\(\\);( +//.*)?");
    private static final Pattern CALL = Pattern.compile("lines\\.(\\w+\\([^)]*\\)); +// (-?\\d+): .+");
    private static final Pattern TEST_ROW = Pattern.compile("(?m)^\\| `(src/test/java/\\w+\\.java)` \\| ");
    private static final int FEWEST_CALLS = 20;

    private static int wrong = 0;

    private static void say(String what) {
        wrong++;
        System.out.println(what);
    }

    public static void main(String[] args) throws IOException, ReflectiveOperationException {
        String page = Files.readString(PAGE);
        examples(page);
        answersBelow0(page);
        namesOfCalls(page);
        namesOfTests(page);
        System.out.println(wrong == 0 ? "the page is as due" : wrong + " things are not as due");
        if (wrong != 0) {
            System.exit(1);
        }
    }

    private static void examples(String page) throws ReflectiveOperationException {
        int calls = 0;
        Matcher block = BLOCK.matcher(page);
        while (block.find()) {
            List<String> lines = new ArrayList<>(block.group(1).lines().toList());
            if (!MADE.matcher(lines.remove(0)).matches()) {
                say("an example makes no object first");
            }
            ForgettingLines x = new ForgettingLines();
            for (String line : lines) {
                example(x, line);
                calls++;
            }
        }
        if (calls < FEWEST_CALLS) {
            say("only " + calls + " calls are in examples");
        }
    }

    private static void example(ForgettingLines x, String line) throws ReflectiveOperationException {
        Matcher call = CALL.matcher(line);
        if (!call.matches()) {
            say("not a call with its answer: " + line);
            return;
        }
        int got = Script.call(x, call.group(1));
        if (got != Integer.parseInt(call.group(2))) {
            say("the answer is " + got + ": " + line);
        }
    }

    private static void answersBelow0(String page) throws IllegalAccessException {
        int constants = 0;
        for (Field field : ForgettingLines.class.getFields()) {
            constants++;
            String row = "| `" + field.getName() + "` | " + field.getInt(null) + " | ";
            if (!page.contains(row)) {
                say("there is no row " + row);
            }
        }
        if (constants != 8) {
            say("there are " + constants + " constants");
        }
        if (!page.contains("| -20 and less | ")) {
            say("faults are not told");
        }
    }

    private static void namesOfCalls(String page) {
        for (Method method : ForgettingLines.class.getDeclaredMethods()) {
            if (Modifier.isPublic(method.getModifiers()) && !page.contains("`" + method.getName() + "`")) {
                say(method.getName() + " is not named");
            }
        }
    }

    private static void namesOfTests(String page) throws IOException {
        Set<String> files = new TreeSet<>();
        try (DirectoryStream<Path> found = Files.newDirectoryStream(TESTS, "*.java")) {
            found.forEach(file -> files.add(file.toString()));
        }
        Set<String> named = new TreeSet<>();
        Matcher row = TEST_ROW.matcher(page);
        while (row.find()) {
            named.add(row.group(1));
        }
        if (!named.equals(files)) {
            say("the tests that are named are " + named + ", those that there are " + files);
        }
    }
}
