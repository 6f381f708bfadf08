import java.util.ArrayDeque;
import java.util.ArrayList;
import java.util.Deque;
import java.util.HashMap;
import java.util.List;
import java.util.Map;
import java.util.Random;

/**
 * Whether THE AIM is COME TO, and by how few ARCS, found out forwards, as the document defines it: by ARCS and LETTERS
 * LOST, in any order, from NOW on. That goes through PLACES of few LETTERS alone, but of all such; what is FOUND
 * backwards must be as true. STRICT is held against it too: it can't be nearer.
 */
public final class ComeToTest {
    private static final int MACHINES = 3000, NOWS = 4, MOST_LETTERS = 3;
    private static final String LETTERS = "abc", ACTS = "-!?";

    private static int wrong = 0;
    private static int nears = 0, fars = 0, nones = 0, stricts = 0;

    private record Place(int state, String word0, String word1) {
        String word(int line) {
            return line == 0 ? word0 : word1;
        }

        Place with(int newState, int line, String word) {
            return line == 0 ? new Place(newState, word, word1) : new Place(newState, word0, word);
        }
    }

    private record Arc(int from, int act, int line, char letter, int to) {
        String text() {
            return "" + from + ACTS.charAt(act) + (act == 0 ? "" : "" + letter + line) + to;
        }
    }

    public static void main(String[] args) {
        for (int seed = 0; seed < MACHINES && wrong == 0; seed++) {
            new Machine(new Random(seed * 0x9e3779b97f4a7c15L)).check();
        }
        for (int many : new int[] {nears, fars, nones, stricts}) {
            if (many < 50) {
                say("of one kind there were only " + many);
            }
        }
        System.out.println(wrong == 0 ? nears + fars + nones + " aims are come to or not, as due" : "they are not as due");
        if (wrong != 0) {
            System.exit(1);
        }
    }

    private static void say(String what) {
        wrong++;
        System.out.println(what);
    }

    private static final class Machine {
        private final Random random;
        private final int states;
        private final boolean[] bags = new boolean[2];
        private final List<Arc> arcs = new ArrayList<>();
        private final Lines x = new Lines();
        private final Place aim;

        Machine(Random random) {
            this.random = random;
            states = 2 + random.nextInt(3);
            x.states(states);
            for (int line = 0; line < 2; line++) {
                bags[line] = random.nextInt(3) == 0;
                x.bag(line, bags[line]);
            }
            int many = 4 + random.nextInt(13);
            List<String> texts = new ArrayList<>();
            for (int i = 0; i < many; i++) {
                arcs.add(new Arc(state(), random.nextInt(3), random.nextInt(2), LETTERS.charAt(random.nextInt(3)), state()));
                texts.add(arcs.get(i).text());
            }
            x.readText(String.join(";", texts));
            aim = new Place(state(), word(0), word(1));
            x.aimAt(aim.state, aim.word0, aim.word1);
        }

        private int state() {
            return random.nextInt(states);
        }

        private String word(int line) {
            String word = "";
            for (int i = random.nextInt(5) - 2; i > 0; i--) {
                word = sent(line, word, LETTERS.charAt(random.nextInt(3)));
            }
            return word;
        }

        private String sent(int line, String word, char letter) {
            int at = word.length();
            while (bags[line] && at > 0 && word.charAt(at - 1) > letter) {
                at--;
            }
            return word.substring(0, at) + letter + word.substring(at);
        }

        /** The place behind an arc; null if it can't be done, or has too many letters to go on from. */
        private Place behind(Place place, Arc arc) {
            String word = place.word(arc.line);
            int at = word.indexOf(arc.letter);
            if (arc.from != place.state) {
                return null;
            }
            if (arc.act == 0) {
                return place.with(arc.to, arc.line, word);
            }
            if (arc.act == 1) {
                String longer = sent(arc.line, word, arc.letter);
                return longer.length() > MOST_LETTERS + 1 ? null : place.with(arc.to, arc.line, longer);
            }
            boolean isThere = bags[arc.line] ? at >= 0 : at == 0;
            return isThere ? place.with(arc.to, arc.line, word.substring(0, at) + word.substring(at + 1)) : null;
        }

        private boolean isReached(Place place) {
            return place.state == aim.state && isIn(aim.word0, place.word0) && isIn(aim.word1, place.word1);
        }

        /** By leaving out letters, in every way. */
        private static boolean isIn(String word, String other) {
            if (word.equals(other)) {
                return true;
            }
            for (int i = 0; i < other.length() && word.length() < other.length(); i++) {
                if (isIn(word, without(other, i))) {
                    return true;
                }
            }
            return false;
        }

        private static String without(String word, int i) {
            return word.substring(0, i) + word.substring(i + 1);
        }

        /** The fewest arcs to a place that the aim is below; -4: none. A lost letter counts for nothing. */
        private int fewest(Place start) {
            Map<Place, Integer> arcsTo = new HashMap<>(Map.of(start, 0));
            Deque<Place> open = new ArrayDeque<>(List.of(start));
            while (!open.isEmpty()) {
                Place at = open.removeFirst();
                int steps = arcsTo.get(at);
                if (isReached(at)) {
                    return steps;
                }
                for (int line = 0; line < 2; line++) {
                    for (int i = 0; i < at.word(line).length(); i++) {
                        Place less = at.with(at.state, line, without(at.word(line), i));
                        if (arcsTo.getOrDefault(less, Integer.MAX_VALUE) > steps) {
                            arcsTo.put(less, steps);
                            open.addFirst(less);
                        }
                    }
                }
                for (Arc arc : arcs) {
                    Place next = behind(at, arc);
                    if (next != null && arcsTo.getOrDefault(next, Integer.MAX_VALUE) > steps + 1) {
                        arcsTo.put(next, steps + 1);
                        open.addLast(next);
                    }
                }
            }
            return Lines.NONE;
        }

        /** Some arcs are done on the object; where it is then. */
        private Place wander() {
            Place now = new Place(0, "", "");
            x.reset();
            for (int i = random.nextInt(8); i > 0; i--) {
                int arc = random.nextInt(arcs.size());
                Place next = behind(now, arcs.get(arc));
                if (next != null && next.word0.length() <= MOST_LETTERS && next.word1.length() <= MOST_LETTERS) {
                    x.go(arc);
                    now = next;
                }
            }
            return now;
        }

        private boolean hasFewLetters() {
            int found = x.found();
            for (int k = 0; k < found; k++) {
                if (x.about(k, 2) > MOST_LETTERS || x.about(k, 3) > MOST_LETTERS) {
                    return false;
                }
            }
            return true;
        }

        void check() {
            boolean fits = x.found() != Lines.FULL && hasFewLetters();
            for (int i = 0; i < NOWS; i++) {
                Place now = wander();
                int far = x.far();
                int strict = x.strict(MOST_LETTERS);
                int due = fewest(now);
                boolean isTrue = fits ? far == due : far == Lines.FULL || due < 0 || far >= 0 && far <= due;
                if (!isTrue || strict >= 0 && (due < 0 || strict < due)) {
                    say("far " + far + ", strict " + strict + ", forwards " + due + ": " + arcs + aim + now + bags[0] + bags[1]);
                }
                count(fits ? far : -1, strict);
            }
        }

        private static void count(int far, int strict) {
            nears += far == 0 || far == 1 ? 1 : 0;
            fars += far > 1 ? 1 : 0;
            nones += far == Lines.NONE ? 1 : 0;
            stricts += far >= 0 && strict != far ? 1 : 0;
        }
    }
}
