import java.util.ArrayList;
import java.util.List;

/**
 * An object of the class whose calls are counted: behind the 512th all answers are free, so no test may ask for them.
 * With it stand the runs of calls that many tests need.
 */
final class Lines {
    static final int BAD = -1, NOT = -2, FULL = -3, NONE = -4, NULL = -11, CAST = -12, INDEX = -13, SIZE = -14;
    static final int MOST_CALLS = 512;

    private final ForgettingLines x = new ForgettingLines();
    private int calls = 0;

    private ForgettingLines counted() {
        calls++;
        if (calls > MOST_CALLS) {
            throw new IllegalStateException("a test uses an object for more than " + MOST_CALLS + " calls");
        }
        return x;
    }

    int calls() {
        return calls;
    }

    // ---- the face

    int states(int n) {
        return counted().states(n);
    }

    int bag(int line, boolean is) {
        return counted().bag(line, is);
    }

    int arc(int from, int act, int line, int letter, int to) {
        return counted().arc(from, act, line, letter, to);
    }

    int unarc() {
        return counted().unarc();
    }

    int told(int arc, int what) {
        return counted().told(arc, what);
    }

    int type(long w, int n) {
        return counted().type(w, n);
    }

    int read() {
        return counted().read();
    }

    int arcs(int sheet, int lane, int i, int n) {
        return counted().arcs(sheet, lane, i, n);
    }

    int go(int arc) {
        return counted().go(arc);
    }

    int lose(int line, int i) {
        return counted().lose(line, i);
    }

    int now(int line, int i) {
        return counted().now(line, i);
    }

    int reset() {
        return counted().reset();
    }

    int aim(int state) {
        return counted().aim(state);
    }

    int want(int line, int letter) {
        return counted().want(line, letter);
    }

    int found() {
        return counted().found();
    }

    int about(int k, int what) {
        return counted().about(k, what);
    }

    int letter(int k, int line, int i) {
        return counted().letter(k, line, i);
    }

    int least() {
        return counted().least();
    }

    int far() {
        return counted().far();
    }

    int way(int i) {
        return counted().way(i);
    }

    int strict(int l) {
        return counted().strict(l);
    }

    int sheet(int sheet, int lane, int n) {
        return counted().sheet(sheet, lane, n);
    }

    int drop(int sheet) {
        return counted().drop(sheet);
    }

    int item(int sheet, int lane, int i, int v) {
        return counted().item(sheet, lane, i, v);
    }

    // ---- runs of calls

    /** A new object with so many states and the arcs of a text. */
    static Lines of(int states, String text) {
        Lines lines = new Lines();
        lines.states(states);
        Suite.due("read of " + text, lines.readText(text), text.split(";").length);
        return lines;
    }

    void typeText(String text) {
        for (int i = 0; i < text.length(); i += 8) {
            int n = Math.min(8, text.length() - i);
            type(packed(text.substring(i, i + n)), n);
        }
    }

    /** A text of at most eight bytes as type takes it. */
    static long packed(String text) {
        long w = 0;
        for (char c : text.toCharArray()) {
            w = w << 8 | c;
        }
        return w;
    }

    int readText(String text) {
        typeText(text);
        return read();
    }

    Lines goAll(int... arcs) {
        for (int arc : arcs) {
            go(arc);
        }
        return this;
    }

    Lines goTimes(int arc, int times) {
        for (int i = 0; i < times; i++) {
            go(arc);
        }
        return this;
    }

    Lines wantAll(int line, String letters) {
        for (char c : letters.toCharArray()) {
            want(line, c - 'a');
        }
        return this;
    }

    Lines aimAt(int state, String word0, String word1) {
        aim(state);
        return wantAll(0, word0).wantAll(1, word1);
    }

    Lines putItems(int sheet, int lane, int first, int... items) {
        for (int i = 0; i < items.length; i++) {
            item(sheet, lane, first + i, items[i]);
        }
        return this;
    }

    // ---- what is told

    String word(int line) {
        StringBuilder word = new StringBuilder();
        int size = now(line, -1);
        for (int i = 0; i < size; i++) {
            word.append((char) ('a' + now(line, i)));
        }
        return word.toString();
    }

    String place() {
        return now(0, -2) + " " + word(0) + " " + word(1);
    }

    /** The k-th found: its state, its words, and its round. */
    String foundPlace(int k) {
        StringBuilder place = new StringBuilder().append(about(k, 0));
        for (int line = 0; line < 2; line++) {
            place.append(' ');
            int size = about(k, 2 + line);
            for (int i = 0; i < size; i++) {
                place.append((char) ('a' + letter(k, line, i)));
            }
        }
        return place.append(" round ").append(about(k, 1)).toString();
    }

    int countArcs() {
        int many = 0;
        while (told(many, 0) >= 0) {
            many++;
        }
        return many;
    }

    List<Integer> arcParts(int arc) {
        List<Integer> parts = new ArrayList<>();
        for (int what = 0; what < 5; what++) {
            parts.add(told(arc, what));
        }
        return parts;
    }

    /** All that can be told of the object. What is told first is changed by nothing; then it is changed to tell the rest. */
    List<Integer> everything() {
        List<Integer> all = new ArrayList<>();
        addNow(all);
        addArcs(all);
        all.addAll(List.of(found(), least(), far(), way(0), strict(3)));
        int left = unarc();
        while (left > 0) {
            left = unarc();
        }
        addAim(all);
        all.add(type(' ', 1));
        all.add(read());
        addArcs(all);
        for (int sheet = 0; sheet < 2; sheet++) {
            all.add(states(8));
            addSheet(all, sheet);
        }
        all.addAll(List.of(bag(0, false), bag(1, false), drop(0), drop(1)));
        return all;
    }

    private void addNow(List<Integer> all) {
        all.add(now(0, -2));
        for (int line = 0; line < 2; line++) {
            int size = now(line, -1);
            all.add(size);
            for (int i = 0; i < size; i++) {
                all.add(now(line, i));
            }
        }
    }

    private void addArcs(List<Integer> all) {
        int many = countArcs();
        all.add(many);
        for (int arc = 0; arc < many; arc++) {
            for (int what = 1; what < 5; what++) {
                all.add(told(arc, what));
            }
            all.add(told(arc, 0));
        }
    }

    /** There are no arcs now, so that the aim alone is found. */
    private void addAim(List<Integer> all) {
        all.add(about(0, 0));
        for (int line = 0; line < 2; line++) {
            int size = about(0, 2 + line);
            all.add(size);
            for (int i = 0; i < size; i++) {
                all.add(letter(0, line, i));
            }
        }
    }

    private void addSheet(List<Integer> all, int sheet) {
        for (int lane = 0; lane < 2; lane++) {
            int i = 0;
            int answer = arcs(sheet, lane, 0, 0);
            all.add(answer);
            while (answer >= 0 || answer == NOT) {
                answer = arcs(sheet, lane, i, 1);
                all.add(answer);
                i += 5;
            }
        }
        addArcs(all);
    }
}
