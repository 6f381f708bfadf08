import java.util.ArrayList;
import java.util.List;

/**
 * A run of calls on one new object, written as a text: steps, two blanks or a new line between them, each with what is
 * due behind a =. A step is a call of the face, or one of these, which stand for calls:
 * <pre>
 * TEXT 0!a01;1-2 = 9           a text is typed; how many bytes THE TAPE has then
 * NOW = 1 ab .                 its state and words, a . for a word without letters
 * ARCS = 2                     how many there are
 * ARC 1 = 1 0 0 0 2            its five parts
 * FOUND 1 = 0 a . round 1 by 0 of 0 least    all that is told of one found
 * WAY = 0 2                    all arcs of the way, and how many they are
 * </pre>
 */
final class Play {
    private static final List<String> NAMES = List.of("BAD", "NOT", "FULL", "NONE", "NULL", "CAST", "INDEX", "SIZE");
    private static final int[] NUMBERS = {-1, -2, -3, -4, -11, -12, -13, -14};

    private final ForgettingLines x = new ForgettingLines();
    private int calls = 0;

    private Play() {
    }

    static void run(String... texts) throws ReflectiveOperationException {
        Play play = new Play();
        int number = 0;
        for (String text : texts) {
            for (String step : text.strip().split("\\s{2,}|\n")) {
                number++;
                play.step(number, step);
            }
        }
    }

    private void step(int number, String step) throws ReflectiveOperationException {
        int at = step.lastIndexOf('=');
        String what = step.substring(0, at).strip();
        String due = step.substring(at + 1).strip();
        String got = answer(what);
        int name = NAMES.indexOf(due);
        String want = name >= 0 ? "" + NUMBERS[name] : due;
        Suite.due("step " + number + ", " + what + " (" + got + " for " + want + ")", got.equals(want) ? 1 : 0, 1);
    }

    private int call(String text) throws ReflectiveOperationException {
        calls++;
        if (calls > Lines.MOST_CALLS) {
            throw new IllegalStateException("a run has more than " + Lines.MOST_CALLS + " calls");
        }
        return Script.call(x, text);
    }

    private String answer(String what) throws ReflectiveOperationException {
        String[] words = what.split(" ", 2);
        switch (words[0]) {
            case "TEXT":
                return "" + type(words[1]);
            case "NOW":
                return now();
            case "ARCS":
                return "" + countArcs();
            case "ARC":
                return arc(words[1]);
            case "FOUND":
                return found(words[1]);
            case "WAY":
                return way();
            default:
                return "" + call(what);
        }
    }

    private int type(String text) throws ReflectiveOperationException {
        int size = 0;
        for (int i = 0; i < text.length(); i += 8) {
            String part = text.substring(i, Math.min(text.length(), i + 8));
            size = call("type(" + Lines.packed(part) + ", " + part.length() + ")");
        }
        return size;
    }

    private String now() throws ReflectiveOperationException {
        return call("now(0, -2)") + " " + word(call("now(0, -1)"), "now(0, ") + " " + word(call("now(1, -1)"), "now(1, ");
    }

    /** The letters that a call tells whose last number is missing. */
    private String word(int size, String start) throws ReflectiveOperationException {
        StringBuilder word = new StringBuilder();
        for (int i = 0; i < size; i++) {
            word.append((char) ('a' + call(start + i + ")")));
        }
        return size == 0 ? "." : word.toString();
    }

    private int countArcs() throws ReflectiveOperationException {
        int many = 0;
        while (call("told(" + many + ", 0)") >= 0) {
            many++;
        }
        return many;
    }

    private String arc(String number) throws ReflectiveOperationException {
        List<String> parts = new ArrayList<>();
        for (int what = 0; what < 5; what++) {
            parts.add("" + call("told(" + number + ", " + what + ")"));
        }
        return String.join(" ", parts);
    }

    private String found(String k) throws ReflectiveOperationException {
        int[] facts = new int[7];
        for (int what = 0; what < facts.length; what++) {
            facts[what] = call("about(" + k + ", " + what + ")");
        }
        String words = word(facts[2], "letter(" + k + ", 0, ") + " " + word(facts[3], "letter(" + k + ", 1, ");
        String origin = " round " + facts[1] + " by " + facts[4] + " of " + facts[5];
        return facts[0] + " " + words + origin + (facts[6] == 1 ? " least" : "");
    }

    private String way() throws ReflectiveOperationException {
        List<String> arcs = new ArrayList<>();
        int far = call("far()");
        for (int i = 0; i < far; i++) {
            arcs.add("" + call("way(" + i + ")"));
        }
        int behind = call("way(" + far + ")");
        return String.join(" ", arcs) + (far < 0 || behind != Lines.BAD ? " and then " + far + ", " + behind : "");
    }
}
