import java.util.ArrayDeque;
import java.util.ArrayList;
import java.util.Arrays;
import java.util.Collections;
import java.util.HashMap;
import java.util.HashSet;
import java.util.List;
import java.util.Map;
import java.util.Random;
import java.util.Set;
import java.util.TreeMap;

/**
 * Runs of as many calls as an object is used for, each answer held against a second model of the document, which is
 * written for plainness alone: words are texts, and everything is worked out anew in each call. It also goes THE WAYS.
 */
public final class ModelTest {
    private static final int RUNS = 2000;
    private static final int BAD = -1, NOT = -2, FULL = -3, NONE = -4, NULL = -11, CAST = -12, INDEX = -13, SIZE = -14;

    private record Place(int state, String word0, String word1) {
        String word(int line) {
            return line == 0 ? word0 : word1;
        }

        Place with(int newState, int line, String word) {
            return line == 0 ? new Place(newState, word, word1) : new Place(newState, word0, word);
        }

        boolean isBelow(Place other) {
            return state == other.state && isIn(word0, other.word0) && isIn(word1, other.word1);
        }
    }

    private record Arc(int from, int act, int line, int letter, int to) {
    }

    private record Found(Place place, int round, int arc, int origin) {
    }

    private static boolean isIn(String word, String other) {
        int at = -1;
        for (char c : word.toCharArray()) {
            at = other.indexOf(c, at + 1);
            if (at < 0) {
                return false;
            }
        }
        return true;
    }

    /** The document once more. */
    private static final class Model {
        int n = 4;
        boolean[] bags = new boolean[2];
        List<Arc> arcs = new ArrayList<>();
        Place now = new Place(0, "", "");
        Place aim = new Place(0, "", "");
        String tape = "";
        Integer[][] sheets = new Integer[2][];
        int[] lanes = new int[2];
        List<Found> found;

        private boolean isLine(int line) {
            return line == 0 || line == 1;
        }

        private void accepted() {
            now = new Place(0, "", "");
        }

        private String ordered(int line, String word) {
            char[] letters = word.toCharArray();
            if (bags[line]) {
                Arrays.sort(letters);
            }
            return new String(letters);
        }

        private String sign(int letter) {
            return "abc".substring(letter, letter + 1);
        }

        int states(int many) {
            if (many < 1 || many > 8) {
                return BAD;
            }
            int was = n;
            n = many;
            arcs.clear();
            aim = new Place(0, "", "");
            accepted();
            return was;
        }

        int bag(int line, boolean is) {
            if (!isLine(line)) {
                return BAD;
            }
            int was = bags[line] ? 1 : 0;
            bags[line] = is;
            aim = new Place(0, "", "");
            accepted();
            return was;
        }

        private Arc made(int from, int act, int line, int letter, int to) {
            boolean places = from >= 0 && from < n && to >= 0 && to < n;
            if (!places || act < 0 || act > 2) {
                return null;
            }
            if (act == 0) {
                return new Arc(from, 0, 0, 0, to);
            }
            return isLine(line) && letter >= 0 && letter <= 2 ? new Arc(from, act, line, letter, to) : null;
        }

        int arc(int from, int act, int line, int letter, int to) {
            Arc made = made(from, act, line, letter, to);
            if (made == null) {
                return BAD;
            }
            if (arcs.size() == 20) {
                return FULL;
            }
            arcs.add(made);
            accepted();
            return arcs.size() - 1;
        }

        int unarc() {
            if (arcs.isEmpty()) {
                return NOT;
            }
            arcs.remove(arcs.size() - 1);
            accepted();
            return arcs.size();
        }

        int told(int arc, int what) {
            if (arc < 0 || arc >= arcs.size() || what < 0 || what > 4) {
                return BAD;
            }
            Arc a = arcs.get(arc);
            return new int[] {a.from, a.act, a.line, a.letter, a.to}[what];
        }

        int type(long w, int many) {
            if (many < 1 || many > 8) {
                return BAD;
            }
            StringBuilder text = new StringBuilder();
            for (int i = many - 1; i >= 0; i--) {
                char c = (char) (w >> 8 * i & 0xff);
                if (c < 32 || c > 126) {
                    return BAD;
                }
                text.append(c);
            }
            if (tape.length() + many > 130) {
                return FULL;
            }
            tape += text;
            return tape.length();
        }

        /** An automaton over the bytes: what may stand next, by how much of an ARC there is. */
        int read() {
            String text = tape;
            tape = "";
            List<Arc> made = new ArrayList<>();
            String part = "";
            for (int i = 0; i < text.length(); i++) {
                char c = text.charAt(i);
                if (c == ' ') {
                    continue;
                }
                if (isWhole(part) && c == ';' && made.size() < 19) {
                    made.add(parsed(part));
                    part = "";
                } else if (!isWhole(part) && allowed(part).indexOf(c) >= 0) {
                    part += c;
                } else {
                    return -20 - i;
                }
            }
            if (!isWhole(part)) {
                return -20 - text.length();
            }
            made.add(parsed(part));
            arcs = made;
            accepted();
            return made.size();
        }

        private boolean isWhole(String part) {
            return part.matches("[0-9]-[0-9]|[0-9][!?][abc][01][0-9]");
        }

        private String allowed(String part) {
            String states = "01234567".substring(0, n);
            if (part.endsWith("-") || part.isEmpty() || part.length() == 4) {
                return states;
            }
            return part.length() == 1 ? "-!?" : part.length() == 2 ? "abc" : "01";
        }

        private Arc parsed(String part) {
            int from = part.charAt(0) - '0';
            int to = part.charAt(part.length() - 1) - '0';
            int act = "-!?".indexOf(part.charAt(1));
            return act == 0 ? new Arc(from, 0, 0, 0, to) : new Arc(from, act, part.charAt(3) - '0', part.charAt(2) - 'a', to);
        }

        int arcs(int sheet, int lane, int i, int many) {
            if (!isLine(sheet) || !isLine(lane) || many < 0 || many > 12) {
                return BAD;
            }
            if (sheets[sheet] == null) {
                return NULL;
            }
            if (lanes[sheet] != lane) {
                return CAST;
            }
            if (i < 0 || (long) i + 5 * many > sheets[sheet].length) {
                return INDEX;
            }
            List<Arc> more = new ArrayList<>();
            for (int k = 0; k < many; k++) {
                List<Integer> p = Arrays.asList(sheets[sheet]).subList(i + 5 * k, i + 5 * k + 5);
                more.add(made(p.get(0), p.get(1), p.get(2), p.get(3), p.get(4)));
            }
            if (more.contains(null)) {
                return NOT;
            }
            if (arcs.size() + many > 20) {
                return FULL;
            }
            arcs.addAll(more);
            accepted();
            return arcs.size();
        }

        /** The place behind an arc, whatever its size; null if it can't be done. */
        Place behind(Place place, Arc arc) {
            if (arc.from != place.state) {
                return null;
            }
            String word = place.word(arc.line);
            String sign = sign(arc.letter);
            if (arc.act == 0) {
                return place.with(arc.to, 0, place.word0);
            }
            if (arc.act == 1) {
                return place.with(arc.to, arc.line, ordered(arc.line, word + sign));
            }
            boolean there = bags[arc.line] ? word.contains(sign) : word.startsWith(sign);
            return there ? place.with(arc.to, arc.line, word.replaceFirst(sign, "")) : null;
        }

        int go(int arc) {
            if (arc < 0 || arc >= arcs.size()) {
                return BAD;
            }
            Place next = behind(now, arcs.get(arc));
            if (next == null) {
                return NOT;
            }
            if (next.word0.length() > 10 || next.word1.length() > 10) {
                return FULL;
            }
            now = next;
            return now.state;
        }

        int lose(int line, int i) {
            if (!isLine(line) || i < 0 || i >= now.word(line).length()) {
                return BAD;
            }
            StringBuilder word = new StringBuilder(now.word(line));
            int lost = word.charAt(i) - 'a';
            now = now.with(now.state, line, word.deleteCharAt(i).toString());
            return lost;
        }

        int now(int line, int i) {
            if (i == -2) {
                return now.state;
            }
            if (!isLine(line)) {
                return BAD;
            }
            if (i == -1) {
                return now.word(line).length();
            }
            return i >= 0 && i < now.word(line).length() ? now.word(line).charAt(i) - 'a' : BAD;
        }

        int reset() {
            accepted();
            return 1;
        }

        int aim(int state) {
            if (state < 0 || state >= n) {
                return BAD;
            }
            aim = new Place(state, "", "");
            return 1;
        }

        int want(int line, int letter) {
            if (!isLine(line) || letter < 0 || letter > 2) {
                return BAD;
            }
            if (aim.word(line).length() == 10) {
                return FULL;
            }
            aim = aim.with(aim.state, line, ordered(line, aim.word(line) + sign(letter)));
            return aim.word(line).length();
        }

        private Place ahead(Place place, Arc arc) {
            String word = place.word(arc.line);
            String sign = sign(arc.letter);
            if (arc.act == 1 && bags[arc.line]) {
                word = word.replaceFirst(sign, "");
            } else if (arc.act == 1 && word.endsWith(sign)) {
                word = word.substring(0, word.length() - 1);
            } else if (arc.act == 2) {
                word = ordered(arc.line, sign + word);
            }
            return place.with(arc.from, arc.line, word);
        }

        /** Round by round; false: SPENT. */
        boolean search() {
            found = new ArrayList<>();
            found.add(new Found(aim, 0, -2, -2));
            int before = -1;
            for (int round = 1; before < found.size(); round++) {
                before = found.size();
                for (int k = 0; k < before; k++) {
                    if (found.get(k).round == round - 1 && !searchAhead(k, round)) {
                        return false;
                    }
                }
            }
            return true;
        }

        private boolean searchAhead(int k, int round) {
            for (int a = 0; a < arcs.size(); a++) {
                Place origin = found.get(k).place;
                if (arcs.get(a).to != origin.state) {
                    continue;
                }
                Place place = ahead(origin, arcs.get(a));
                if (found.stream().anyMatch(f -> f.place.isBelow(place))) {
                    continue;
                }
                if (place.word0.length() > 10 || place.word1.length() > 10 || found.size() == 80) {
                    return false;
                }
                found.add(new Found(place, round, a, k));
            }
            return true;
        }

        int found() {
            return search() ? found.size() : FULL;
        }

        private boolean isLeast(Found f) {
            return found.stream().noneMatch(g -> g != f && g.place.isBelow(f.place));
        }

        int about(int k, int what) {
            if (k < 0 || what < 0 || what > 6) {
                return BAD;
            }
            if (!search()) {
                return FULL;
            }
            if (k >= found.size()) {
                return BAD;
            }
            Found f = found.get(k);
            int[] facts = {f.place.state, f.round, f.place.word0.length(), f.place.word1.length(), f.arc, f.origin, isLeast(f) ? 1 : 0};
            return facts[what];
        }

        int letter(int k, int line, int i) {
            if (k < 0 || i < 0 || !isLine(line)) {
                return BAD;
            }
            if (!search()) {
                return FULL;
            }
            if (k >= found.size() || i >= found.get(k).place.word(line).length()) {
                return BAD;
            }
            return found.get(k).place.word(line).charAt(i) - 'a';
        }

        int least() {
            return search() ? (int) found.stream().filter(this::isLeast).count() : FULL;
        }

        /** THE WAY from now; null: there is none. */
        List<Integer> theWay() {
            List<Found> below = found.stream().filter(f -> f.place.isBelow(now)).toList();
            if (below.isEmpty()) {
                return null;
            }
            int round = Collections.min(below.stream().map(f -> f.round).toList());
            Found at = below.stream().filter(f -> f.round == round).findFirst().get();
            List<Integer> way = new ArrayList<>();
            while (at.origin >= 0) {
                way.add(at.arc);
                at = found.get(at.origin);
            }
            return way;
        }

        int far() {
            if (!search()) {
                return FULL;
            }
            List<Integer> way = theWay();
            return way == null ? NONE : way.size();
        }

        int way(int i) {
            if (i < 0) {
                return BAD;
            }
            if (!search()) {
                return FULL;
            }
            List<Integer> way = theWay();
            if (way == null) {
                return NONE;
            }
            return i < way.size() ? way.get(i) : BAD;
        }

        int strict(int l) {
            if (l < 0 || l > 3) {
                return BAD;
            }
            for (String word : List.of(now.word0, now.word1, aim.word0, aim.word1)) {
                if (word.length() > l) {
                    return NOT;
                }
            }
            Map<Place, Integer> steps = new HashMap<>(Map.of(now, 0));
            ArrayDeque<Place> open = new ArrayDeque<>(List.of(now));
            while (!open.isEmpty()) {
                Place at = open.remove();
                if (aim.isBelow(at)) {
                    return steps.get(at);
                }
                for (Arc arc : arcs) {
                    Place next = behind(at, arc);
                    boolean can = next != null && next.word0.length() <= l && next.word1.length() <= l;
                    if (can && steps.putIfAbsent(next, steps.get(at) + 1) == null) {
                        open.add(next);
                    }
                }
            }
            return NONE;
        }

        int sheet(int sheet, int lane, int many) {
            if (!isLine(sheet) || !isLine(lane) || many > 60) {
                return BAD;
            }
            if (many < 0) {
                return SIZE;
            }
            sheets[sheet] = new Integer[many];
            Arrays.fill(sheets[sheet], 0);
            lanes[sheet] = lane;
            return many;
        }

        int drop(int sheet) {
            if (!isLine(sheet)) {
                return BAD;
            }
            if (sheets[sheet] == null) {
                return NULL;
            }
            int many = sheets[sheet].length;
            sheets[sheet] = null;
            return many;
        }

        int item(int sheet, int lane, int i, int v) {
            if (!isLine(sheet) || !isLine(lane)) {
                return BAD;
            }
            if (sheets[sheet] == null) {
                return NULL;
            }
            if (lanes[sheet] != lane) {
                return CAST;
            }
            if (i < 0 || i >= sheets[sheet].length) {
                return INDEX;
            }
            sheets[sheet][i] = lane == 0 ? (int) (byte) v : v;
            return 1;
        }
    }

    /** One run: calls are made up, made on both, and their answers held against one another. */
    private static final class Run {
        final Random random;
        final Lines x = new Lines();
        final Model model = new Model();
        final List<String> told = new ArrayList<>();
        /** In a calm run the machine seldom changes, so that now and the aim come far. */
        final boolean calm;
        boolean right = true;

        Run(int seed) {
            // Neighbouring seeds as they are give first numbers that are nearly the same.
            random = new Random(seed * 0x9e3779b97f4a7c15L);
            calm = below(2) == 0;
        }

        private int below(int bound) {
            return random.nextInt(bound);
        }

        /** A number of 0 .. bound - 1, but now and then one that is not. */
        private int near(int bound) {
            int[] outside = {-1, bound, bound + 1, -2, Integer.MIN_VALUE, Integer.MAX_VALUE};
            return below(25) == 0 || bound <= 0 ? outside[below(outside.length)] : below(bound);
        }

        private void same(String call, int got, int want) {
            told.add(call + " = " + got);
            String name = call.substring(0, call.indexOf('('));
            ANSWERS.computeIfAbsent(name, key -> new TreeMap<>()).merge(Math.min(want, 0), 1, Integer::sum);
            if (got != want) {
                right = false;
                told.add("due is " + want);
            }
        }

        void go() {
            if (calm || below(3) > 0) {
                machine();
            }
            while (right && canCall(1)) {
                call(calm && below(20) > 0 ? 15 + below(63) : below(100));
            }
            if (!right) {
                told.subList(0, Math.max(0, told.size() - 60)).clear();
                told.forEach(System.out::println);
            }
        }

        private boolean canCall(int times) {
            return x.calls() + times <= Lines.MOST_CALLS;
        }

        private void machine() {
            int n = 1 + below(8);
            same("states(" + n + ")", x.states(n), model.states(n));
            for (int line = 0; line < 2; line++) {
                boolean is = random.nextBoolean();
                same("bag(" + line + "," + is + ")", x.bag(line, is), model.bag(line, is));
            }
            int many = below(21);
            for (int i = 0; i < many; i++) {
                callArc();
            }
        }

        private void call(int kind) {
            if (kind < 2) {
                callSetting();
            } else if (kind < 7) {
                callArc();
            } else if (kind < 9) {
                same("unarc()", x.unarc(), model.unarc());
            } else if (kind < 12) {
                callTold();
            } else if (kind < 15) {
                callText();
            } else if (kind < 35) {
                callNow(below(10));
            } else if (kind < 78) {
                callAim(below(21));
            } else {
                callSheet(below(15));
            }
        }

        private void callSetting() {
            int line = near(2);
            boolean is = random.nextBoolean();
            int n = 1 + near(8);
            if (below(3) == 0) {
                same("states(" + n + ")", x.states(n), model.states(n));
            } else {
                same("bag(" + line + "," + is + ")", x.bag(line, is), model.bag(line, is));
            }
        }

        private void callArc() {
            int from = near(model.n);
            int act = near(3);
            int line = near(2);
            int letter = near(3);
            int to = near(model.n);
            String call = "arc(" + from + "," + act + "," + line + "," + letter + "," + to + ")";
            same(call, x.arc(from, act, line, letter, to), model.arc(from, act, line, letter, to));
        }

        private void callTold() {
            int arc = near(model.arcs.size());
            int what = near(5);
            same("told(" + arc + "," + what + ")", x.told(arc, what), model.told(arc, what));
        }

        /** A text of ARCS with blanks; often with one byte another. */
        private void callText() {
            StringBuilder text = new StringBuilder();
            int many = 1 + below(below(4) == 0 ? 23 : 6);
            for (int i = 0; i < many; i++) {
                text.append(i > 0 ? ";" : "").append(below(model.n)).append("-!?".charAt(below(3)));
                if (text.charAt(text.length() - 1) != '-') {
                    text.append("abc".charAt(below(3))).append(below(2));
                }
                text.append(below(model.n));
            }
            for (int i = below(6); i > 0; i--) {
                text.insert(below(text.length() + 1), ' ');
            }
            if (below(2) == 0) {
                text.setCharAt(below(text.length()), " ;-!?abcd0123456789~".charAt(below(20)));
            }
            typeAll(text.toString());
            if (below(8) > 0 && canCall(1)) {
                same("read()", x.read(), model.read());
            }
        }

        private void typeAll(String text) {
            for (int i = 0; i < text.length() && canCall(1); ) {
                int n = 1 + below(8);
                long w = random.nextLong();
                for (int j = 0; j < n; j++) {
                    w = w << 8 | (i + j < text.length() ? text.charAt(i + j) : ' ');
                }
                if (below(150) == 0) {
                    w ^= 128L << 8 * below(8);
                }
                int said = below(100) == 0 ? near(9) : n;
                same("type(" + w + "," + said + ")", x.type(w, said), model.type(w, said));
                i += n;
            }
        }

        private void callNow(int kind) {
            int arc = near(model.arcs.size());
            int line = near(2);
            int i = near(Math.max(1, model.now.word(line & 1).length()));
            if (kind < 5) {
                arc = below(4) == 0 ? arc : anArcOf(model.now.state, arc);
                same("go(" + arc + ")", x.go(arc), model.go(arc));
            } else if (kind < 6) {
                same("lose(" + line + "," + i + ")", x.lose(line, i), model.lose(line, i));
            } else if (kind < 9) {
                int which = i - 2 * below(2);
                same("now(" + line + "," + which + ")", x.now(line, which), model.now(line, which));
            } else if (below(4) == 0) {
                same("reset()", x.reset(), model.reset());
            }
        }

        private int anArcOf(int state, int otherwise) {
            List<Integer> can = new ArrayList<>();
            for (int a = 0; a < model.arcs.size(); a++) {
                if (model.arcs.get(a).from == state) {
                    can.add(a);
                }
            }
            return can.isEmpty() ? otherwise : can.get(below(can.size()));
        }

        private void callAim(int kind) {
            int state = near(model.n);
            if (kind == 0) {
                same("aim(" + state + ")", x.aim(state), model.aim(state));
            } else if (kind < 4) {
                callWants();
            } else if (kind < 6) {
                same("found()", x.found(), model.found());
            } else if (kind < 7) {
                same("least()", x.least(), model.least());
            } else if (kind < 9) {
                same("far()", x.far(), model.far());
                goTheWay();
            } else if (kind < 12) {
                int i = near(6);
                same("way(" + i + ")", x.way(i), model.way(i));
            } else if (kind < 14) {
                int l = near(4);
                same("strict(" + l + ")", x.strict(l), model.strict(l));
            } else {
                callFound();
            }
        }

        private void callWants() {
            for (int i = below(10) == 0 ? below(12) : 1; i > 0 && canCall(1); i--) {
                int line = near(2);
                int letter = near(3);
                same("want(" + line + "," + letter + ")", x.want(line, letter), model.want(line, letter));
            }
        }

        private void callFound() {
            model.search();
            int k = near(model.found.size());
            int what = near(7);
            int line = near(2);
            int i = near(4);
            if (below(3) > 0) {
                same("about(" + k + "," + what + ")", x.about(k, what), model.about(k, what));
            } else {
                same("letter(" + k + "," + line + "," + i + ")", x.letter(k, line, i), model.letter(k, line, i));
            }
        }

        /** By all that can be LOST before and behind each ARC, a place that the aim is BELOW must be come to. */
        private void goTheWay() {
            int far = model.far();
            if (far < 0 || far > 10 || !canCall(far)) {
                return;
            }
            Set<Place> at = withLost(Set.of(model.now));
            for (int i = 0; i < far && right; i++) {
                int arc = model.way(i);
                same("way(" + i + ")", x.way(i), arc);
                Set<Place> next = new HashSet<>();
                for (Place place : at) {
                    Place behind = model.behind(place, model.arcs.get(arc));
                    if (behind != null) {
                        next.add(behind);
                    }
                }
                at = withLost(next);
            }
            same("gone(" + far + ")", at.stream().anyMatch(model.aim::isBelow) ? 1 : 0, 1);
        }

        private static Set<Place> withLost(Set<Place> places) {
            Set<Place> all = new HashSet<>(places);
            ArrayDeque<Place> open = new ArrayDeque<>(places);
            while (!open.isEmpty()) {
                Place place = open.remove();
                for (int line = 0; line < 2; line++) {
                    for (int i = 0; i < place.word(line).length(); i++) {
                        String word = new StringBuilder(place.word(line)).deleteCharAt(i).toString();
                        Place less = place.with(place.state, line, word);
                        if (all.add(less)) {
                            open.add(less);
                        }
                    }
                }
            }
            return all;
        }

        private void callSheet(int kind) {
            int sheet = near(2);
            int lane = model.lanes[sheet & 1];
            lane = below(12) == 0 ? near(2) : lane;
            int size = model.sheets[sheet & 1] == null ? 0 : model.sheets[sheet & 1].length;
            if (kind < 2) {
                int n = below(3) == 0 ? near(61) : 5 * below(13);
                int newLane = near(2);
                same("sheet(" + sheet + "," + newLane + "," + n + ")", x.sheet(sheet, newLane, n), model.sheet(sheet, newLane, n));
            } else if (kind < 3) {
                if (below(4) == 0) {
                    same("drop(" + sheet + ")", x.drop(sheet), model.drop(sheet));
                }
            } else if (kind < 12) {
                int i = near(size);
                int v = below(3) == 0 ? near(4) + 256 * below(3) : below(3);
                same("item(" + sheet + "," + lane + "," + i + "," + v + ")", x.item(sheet, lane, i, v), model.item(sheet, lane, i, v));
            } else {
                int n = below(3) == 0 ? near(13) : below(4);
                int i = near(Math.max(1, size - 5 * n + 1));
                same("arcs(" + sheet + "," + lane + "," + i + "," + n + ")", x.arcs(sheet, lane, i, n), model.arcs(sheet, lane, i, n));
            }
        }
    }

    /** How often each call answered each number below 0, and one of 0 and more (as 0). */
    private static final Map<String, Map<Integer, Integer>> ANSWERS = new TreeMap<>();

    /** The answers that the document names for each call; each must have come about in the runs. */
    private static final String[] NAMED = {
        "states -1 0", "bag -1 0", "arc -1 -3 0", "unarc -2 0", "told -1 0", "type -1 -3 0", "read -20 -25 -99 0",
        "arcs -1 -11 -12 -13 -2 -3 0", "go -1 -2 -3 0", "lose -1 0", "now -1 0", "reset 0", "aim -1 0", "want -1 -3 0",
        "found -3 0", "about -1 -3 0 -2", "letter -1 -3 0", "least -3 0", "far -3 -4 0", "way -1 -3 -4 0",
        "strict -1 -2 -4 0", "sheet -1 -14 0", "drop -1 -11 0", "item -1 -11 -12 -13 0", "gone 0"};

    private static boolean allCame() {
        boolean all = true;
        for (String line : NAMED) {
            String[] parts = line.split(" ");
            for (int i = 1; i < parts.length; i++) {
                if (!ANSWERS.getOrDefault(parts[0], Map.of()).containsKey(Integer.parseInt(parts[i]))) {
                    System.out.println("no run had " + parts[0] + " answer " + parts[i]);
                    all = false;
                }
            }
        }
        return all;
    }

    public static void main(String[] args) {
        int runs = args.length > 0 ? Integer.parseInt(args[0]) : RUNS;
        int first = args.length > 1 ? Integer.parseInt(args[1]) : 0;
        int wrong = 0;
        for (int seed = first; seed < first + runs && wrong < 3; seed++) {
            Run run = new Run(seed);
            run.go();
            if (!run.right) {
                System.out.println("run of seed " + seed + " has a wrong answer");
                wrong++;
            }
        }
        boolean all = allCame();
        if (args.length > 0) {
            System.out.println(ANSWERS);
        }
        System.out.println(wrong == 0 && all ? runs + " runs are as due" : "the runs are not as due");
        if (wrong != 0 || !all) {
            System.exit(1);
        }
    }
}
