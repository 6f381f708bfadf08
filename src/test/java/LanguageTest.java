import java.io.IOException;
import java.nio.file.Files;
import java.nio.file.Path;
import java.util.List;
import java.util.regex.Matcher;
import java.util.regex.Pattern;

/** What of LANGUAGE.md can be seen in the program's text, run from the project's folder. */
public final class LanguageTest {
    private static final Path PROGRAM = Path.of("src/main/java/ForgettingLines.java");
    private static final int MOST_LINES = 60, MOST_PARAMETERS = 7;
    private static final String[] RULED_OUT = {
        "->", "::", "\\btry\\b", "\\bcatch\\b", "\\bfinally\\b", "\\bthrow\\b", "\\bsynchronized\\b", "\\bassert\\b",
        "\\bstatic \\{", "\\bdouble\\b", "\\bfloat\\b", "\\bpackage\\b", "\\bpublic static void\\b", "\\bSystem\\.(?!arraycopy)",
        "\\bnew Object\\b", "\\.equals\\(", "hashCode", "toString", "Exact\\b", "\\bvar\\b", "\\bprotected\\b", "\\[\\] \\w+\\[\\]"};
    private static final Pattern METHOD = Pattern.compile("^ +(?:public |private |static |final )*[\\w\\[\\]]+ \\w+\\(([^)]*)\\) \\{$");

    private static int wrong = 0;

    private static void say(String what) {
        wrong++;
        System.out.println(what);
    }

    public static void main(String[] args) throws IOException {
        List<String> lines = Files.readAllLines(PROGRAM);
        String code = String.join("\n", lines).replaceAll("(?s)/\\*.*?\\*/", "").replaceAll("//[^\n]*", "");
        for (String pattern : RULED_OUT) {
            Matcher matcher = Pattern.compile(pattern).matcher(code);
            if (matcher.find()) {
                say("ruled out: " + matcher.group());
            }
        }
        for (String line : lines) {
            if (line.startsWith("import ") && !line.matches("import java\\.util\\.(Arrays|ArrayList|List|Iterator);")) {
                say("ruled out: " + line);
            }
        }
        methods(lines);
        System.out.println(wrong == 0 ? "the language is as due" : wrong + " things are not as due");
        if (wrong != 0) {
            System.exit(1);
        }
    }

    private static void methods(List<String> lines) {
        int methods = 0;
        for (int i = 0; i < lines.size(); i++) {
            Matcher matcher = METHOD.matcher(lines.get(i));
            if (!matcher.matches()) {
                continue;
            }
            methods++;
            String end = " ".repeat(lines.get(i).indexOf(lines.get(i).trim())) + "}";
            int last = i;
            while (!lines.get(last).equals(end)) {
                last++;
            }
            if (last - i + 1 > MOST_LINES) {
                say("too long: " + lines.get(i));
            }
            if (matcher.group(1).split(",").length > MOST_PARAMETERS) {
                say("too many parameters: " + lines.get(i));
            }
        }
        if (methods < 24) {
            say("only " + methods + " methods were seen");
        }
    }
}
