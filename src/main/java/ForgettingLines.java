import java.util.Arrays;

/**
 * Lines that forget: a machine of states that sends letters on two lines and takes them off,
 * while letters may be lost at any time; and from where an aim can be come to.
 *
 * <p>The words in capitals below are those of the document's "Terms".
 */
public final class ForgettingLines {
    public static final int BAD = -1, NOT = -2, FULL = -3, NONE = -4, NULL = -11, CAST = -12, INDEX = -13, SIZE = -14;

    private static final int LINES = 2;
    private static final int LETTERS = 3;
    private static final int MOST_STATES = 8;
    private static final int FIRST_STATES = 4;
    private static final int MOST_LETTERS = 10;
    private static final int MOST_STRICT = 3;
    private static final int MOST_FOUND = 80;

    private static final int MOST_ARCS = 20;
    private static final int MOST_SHEET_ARCS = 12;

    /** An ARC is a row of five numbers, in this order, in a machine as on a SHEET. */
    private static final int FROM = 0, ACT = 1, LINE = 2, LETTER = 3, TO = 4, PARTS = 5;

    private static final int SILENT = 0, SEND = 1, TAKE = 2, ACTS = 3;

    private static final int MOST_BYTES = 130;
    private static final int MOST_TYPED = 8;
    private static final int FIRST_FAULT = -20;

    private static final int SHEETS = 2;
    private static final int LANES = 2;
    private static final int BYTE_LANE = 0;
    private static final int MOST_ITEMS = 60;

    /** What THE AIM has for an ARC and for a PLACE that it is AHEAD of. */
    private static final int NO_ORIGIN = -2;

    private final Machine machine = new Machine();
    private final Tape tape = new Tape();
    private final Place here = new Place();
    private final Place target = new Place();
    private final Search search = new Search();
    private final Walk walk = new Walk();
    private final Sheet[] sheets = {new Sheet(), new Sheet()};

    /** Whether what the search holds is of this machine and this aim. */
    private boolean searched;

    public ForgettingLines() {
    }

    // ---- 1 the machine

    public int states(int n) {
        if (n < 1 || n > MOST_STATES) {
            return BAD;
        }
        int before = machine.states;
        machine.states = n;
        machine.count = 0;
        target.clear(0);
        startAgain();
        return before;
    }

    public int bag(int line, boolean is) {
        if (!isAmong(line, LINES)) {
            return BAD;
        }
        int before = machine.isBag[line] ? 1 : 0;
        machine.isBag[line] = is;
        target.clear(0);
        startAgain();
        return before;
    }

    public int arc(int from, int act, int line, int letter, int to) {
        if (!machine.canHave(from, act, line, letter, to)) {
            return BAD;
        }
        if (machine.count >= MOST_ARCS) {
            return FULL;
        }
        machine.add(from, act, line, letter, to);
        startAgain();
        return machine.count - 1;
    }

    public int unarc() {
        if (machine.count == 0) {
            return NOT;
        }
        machine.count--;
        startAgain();
        return machine.count;
    }

    public int told(int arc, int what) {
        if (!isAmong(arc, machine.count) || !isAmong(what, PARTS)) {
            return BAD;
        }
        return machine.part(arc, what);
    }

    public int type(long w, int n) {
        if (n < 1 || n > MOST_TYPED || !Tape.canHave(w, n)) {
            return BAD;
        }
        if (tape.size + n > MOST_BYTES) {
            return FULL;
        }
        tape.add(w, n);
        return tape.size;
    }

    public int read() {
        int answer = tape.parse(machine.states);
        tape.size = 0;
        if (answer > 0) {
            machine.replace(tape.rows, answer);
            startAgain();
        }
        return answer;
    }

    public int arcs(int sheet, int lane, int i, int n) {
        if (!isAmong(sheet, SHEETS) || !isAmong(lane, LANES) || n < 0 || n > MOST_SHEET_ARCS) {
            return BAD;
        }
        Sheet from = sheets[sheet];
        int fault = from.faultAs(lane);
        if (fault != 0) {
            return fault;
        }
        if (i < 0 || i > from.size - n * PARTS) {
            return INDEX;
        }
        if (!machine.canHaveAll(from.items, i, n)) {
            return NOT;
        }
        if (machine.count + n > MOST_ARCS) {
            return FULL;
        }
        machine.addAll(from.items, i, n);
        startAgain();
        return machine.count;
    }

    // ---- 2 now

    public int go(int arc) {
        if (!isAmong(arc, machine.count)) {
            return BAD;
        }
        if (machine.part(arc, FROM) != here.state) {
            return NOT;
        }
        int line = machine.part(arc, LINE);
        int word = machine.wordBehind(arc, here.words[line]);
        if (word == Words.CANNOT) {
            return NOT;
        }
        if (Words.isLonger(word, MOST_LETTERS)) {
            return FULL;
        }
        here.words[line] = word;
        here.state = machine.part(arc, TO);
        return here.state;
    }

    public int lose(int line, int i) {
        if (!isAmong(line, LINES) || !isAmong(i, Words.size(here.words[line]))) {
            return BAD;
        }
        int lost = Words.at(here.words[line], i);
        here.words[line] = Words.without(here.words[line], i);
        return lost;
    }

    public int now(int line, int i) {
        if (i == -2) {
            return here.state;
        }
        if (!isAmong(line, LINES)) {
            return BAD;
        }
        int size = Words.size(here.words[line]);
        if (i == -1) {
            return size;
        }
        return isAmong(i, size) ? Words.at(here.words[line], i) : BAD;
    }

    public int reset() {
        here.clear(0);
        return 1;
    }

    // ---- 3 the aim

    public int aim(int state) {
        if (!isAmong(state, machine.states)) {
            return BAD;
        }
        target.clear(state);
        searched = false;
        return 1;
    }

    public int want(int line, int letter) {
        if (!isAmong(line, LINES) || !isAmong(letter, LETTERS)) {
            return BAD;
        }
        int size = Words.size(target.words[line]);
        if (size >= MOST_LETTERS) {
            return FULL;
        }
        target.words[line] = machine.wordWith(line, target.words[line], letter);
        searched = false;
        return size + 1;
    }

    public int found() {
        searchOnce();
        return search.spent ? FULL : search.count;
    }

    public int about(int k, int what) {
        if (k < 0 || what < 0 || what > 6) {
            return BAD;
        }
        searchOnce();
        if (search.spent) {
            return FULL;
        }
        return k < search.count ? search.fact(k, what) : BAD;
    }

    public int letter(int k, int line, int i) {
        if (k < 0 || i < 0 || !isAmong(line, LINES)) {
            return BAD;
        }
        searchOnce();
        if (search.spent) {
            return FULL;
        }
        if (k >= search.count) {
            return BAD;
        }
        int word = search.wordOf(k, line);
        return i < Words.size(word) ? Words.at(word, i) : BAD;
    }

    public int least() {
        searchOnce();
        return search.spent ? FULL : search.countLeast();
    }

    public int far() {
        searchOnce();
        if (search.spent) {
            return FULL;
        }
        int k = search.firstBelow(here.state, here.words[0], here.words[1]);
        return k < 0 ? NONE : search.rounds[k];
    }

    public int way(int i) {
        if (i < 0) {
            return BAD;
        }
        searchOnce();
        if (search.spent) {
            return FULL;
        }
        int k = search.firstBelow(here.state, here.words[0], here.words[1]);
        if (k < 0) {
            return NONE;
        }
        return i < search.rounds[k] ? search.arcOfWay(k, i) : BAD;
    }

    public int strict(int l) {
        if (l < 0 || l > MOST_STRICT) {
            return BAD;
        }
        if (here.isLonger(l) || target.isLonger(l)) {
            return NOT;
        }
        return walk.fewest(machine, here, target, l);
    }

    // ---- 4 sheets

    public int sheet(int sheet, int lane, int n) {
        if (!isAmong(sheet, SHEETS) || !isAmong(lane, LANES) || n > MOST_ITEMS) {
            return BAD;
        }
        if (n < 0) {
            return SIZE;
        }
        sheets[sheet].hold(lane, n);
        return n;
    }

    public int drop(int sheet) {
        if (!isAmong(sheet, SHEETS)) {
            return BAD;
        }
        if (!sheets[sheet].held) {
            return NULL;
        }
        sheets[sheet].held = false;
        return sheets[sheet].size;
    }

    public int item(int sheet, int lane, int i, int v) {
        if (!isAmong(sheet, SHEETS) || !isAmong(lane, LANES)) {
            return BAD;
        }
        Sheet to = sheets[sheet];
        int fault = to.faultAs(lane);
        if (fault != 0) {
            return fault;
        }
        if (!isAmong(i, to.size)) {
            return INDEX;
        }
        to.put(i, v);
        return 1;
    }

    // ---- what the calls share

    private static boolean isAmong(int i, int many) {
        return i >= 0 && i < many;
    }

    private void startAgain() {
        here.clear(0);
        searched = false;
    }

    /** Many calls ask about one search; it is made anew only when the machine or THE AIM is another. */
    private void searchOnce() {
        if (!searched) {
            search.run(machine, target);
            searched = true;
        }
    }

    /**
     * A WORD is one number, so that places can be held in rows and made without new objects: two bits
     * a LETTER, which are LETTER + 1, the front one's lowest. The empty WORD is 0. The search looks at
     * WORDS of one LETTER too many, so there is room for more than a PLACE may have.
     */
    private static final class Words {
        static final int CANNOT = -1;
        private static final int ROOM = 15;

        static int size(int word) {
            int size = 0;
            while (size < ROOM && word >>> (2 * size) != 0) {
                size++;
            }
            return size;
        }

        static boolean isLonger(int word, int most) {
            return word >>> (2 * most) != 0;
        }

        static int at(int word, int i) {
            return (word >>> (2 * i) & 3) - 1;
        }

        static int with(int word, int i, int letter) {
            int front = word & ((1 << (2 * i)) - 1);
            int rest = word >>> (2 * i);
            return front | (rest << 2 | letter + 1) << (2 * i);
        }

        static int without(int word, int i) {
            int front = word & ((1 << (2 * i)) - 1);
            int rest = word >>> (2 * i + 2);
            return front | rest << (2 * i);
        }

        /** Where the first such LETTER is; -1: nowhere. */
        static int find(int word, int letter) {
            for (int i = 0; i < ROOM; i++) {
                if ((word >>> (2 * i) & 3) == letter + 1) {
                    return i;
                }
            }
            return -1;
        }

        /** Where the LETTER belongs in the WORD of a BAG. */
        static int placeInOrder(int word, int letter) {
            int rest = word;
            int i = 0;
            while (i < ROOM && rest != 0 && (rest & 3) <= letter + 1) {
                rest >>>= 2;
                i++;
            }
            return i;
        }

        /** WORDS of BAGS are in order, so that this holds for them as it does for ROWS. */
        static boolean isIn(int word, int other) {
            int wanted = word;
            int given = other;
            for (int i = 0; i < ROOM && wanted != 0 && given != 0; i++) {
                if ((wanted & 3) == (given & 3)) {
                    wanted >>>= 2;
                }
                given >>>= 2;
            }
            return wanted == 0;
        }
    }

    private static final class Place {
        int state;
        final int[] words = new int[LINES];

        void clear(int newState) {
            state = newState;
            words[0] = 0;
            words[1] = 0;
        }

        boolean isLonger(int most) {
            return Words.isLonger(words[0], most) || Words.isLonger(words[1], most);
        }
    }

    private static final class Machine {
        int states = FIRST_STATES;
        int count;
        final boolean[] isBag = new boolean[LINES];
        private final int[] rows = new int[MOST_ARCS * PARTS];

        int part(int arc, int what) {
            return rows[arc * PARTS + what];
        }

        boolean canHave(int from, int act, int line, int letter, int to) {
            if (!isAmong(from, states) || !isAmong(act, ACTS) || !isAmong(to, states)) {
                return false;
            }
            return act == SILENT || isAmong(line, LINES) && isAmong(letter, LETTERS);
        }

        boolean canHaveAll(int[] items, int i, int n) {
            for (int arc = 0; arc < n; arc++) {
                int at = i + arc * PARTS;
                if (!canHave(items[at + FROM], items[at + ACT], items[at + LINE], items[at + LETTER], items[at + TO])) {
                    return false;
                }
            }
            return true;
        }

        void add(int from, int act, int line, int letter, int to) {
            int at = count * PARTS;
            rows[at + FROM] = from;
            rows[at + ACT] = act;
            rows[at + LINE] = act == SILENT ? 0 : line;
            rows[at + LETTER] = act == SILENT ? 0 : letter;
            rows[at + TO] = to;
            count++;
        }

        void addAll(int[] items, int i, int n) {
            for (int arc = 0; arc < n; arc++) {
                int at = i + arc * PARTS;
                add(items[at + FROM], items[at + ACT], items[at + LINE], items[at + LETTER], items[at + TO]);
            }
        }

        void replace(int[] items, int n) {
            count = 0;
            addAll(items, 0, n);
        }

        /** The WORD of a LINE when a LETTER has come, which may be one too many for a PLACE. */
        int wordWith(int line, int word, int letter) {
            int i = isBag[line] ? Words.placeInOrder(word, letter) : Words.size(word);
            return Words.with(word, i, letter);
        }

        /** The WORD of the ARC's LINE when it is done, which may be one LETTER too long; or CANNOT. */
        int wordBehind(int arc, int word) {
            int line = part(arc, LINE);
            int letter = part(arc, LETTER);
            switch (part(arc, ACT)) {
                case SEND:
                    return wordWith(line, word, letter);
                case TAKE:
                    int i = Words.find(word, letter);
                    boolean isThere = isBag[line] ? i >= 0 : i == 0;
                    return isThere ? Words.without(word, i) : Words.CANNOT;
                default:
                    return word;
            }
        }

        /** The WORD of the ARC's LINE in THE PLACE AHEAD, which may be one LETTER too long. */
        int wordAhead(int arc, int word) {
            int line = part(arc, LINE);
            int letter = part(arc, LETTER);
            switch (part(arc, ACT)) {
                case SEND:
                    int i = isBag[line] ? Words.find(word, letter) : Words.size(word) - 1;
                    return i >= 0 && Words.at(word, i) == letter ? Words.without(word, i) : word;
                case TAKE:
                    return isBag[line] ? wordWith(line, word, letter) : Words.with(word, 0, letter);
                default:
                    return word;
            }
        }
    }

    /** THE TAPE, and the ARCS that it tells: these have rows of their own, since a FAULT leaves the machine's. */
    private static final class Tape {
        private static final int FIRST_BYTE = 32, LAST_BYTE = 126;

        int size;
        final int[] rows = new int[MOST_ARCS * PARTS];
        private final byte[] bytes = new byte[MOST_BYTES];
        private int at;

        static boolean canHave(long w, int n) {
            for (int i = 0; i < n; i++) {
                int value = byteOf(w, i);
                if (value < FIRST_BYTE || value > LAST_BYTE) {
                    return false;
                }
            }
            return true;
        }

        private static int byteOf(long w, int i) {
            return (int) (w >>> (8 * i)) & 255;
        }

        void add(long w, int n) {
            for (int i = n - 1; i >= 0; i--) {
                bytes[size] = (byte) byteOf(w, i);
                size++;
            }
        }

        /** How many ARCS there are in the rows now; or a FAULT. */
        int parse(int states) {
            at = 0;
            for (int arc = 0; arc < MOST_ARCS; arc++) {
                if (!parseArc(arc * PARTS, states)) {
                    return FIRST_FAULT - at;
                }
                skipBlanks();
                if (at >= size) {
                    return arc + 1;
                }
                if (bytes[at] != ';' || arc + 1 == MOST_ARCS) {
                    return FIRST_FAULT - at;
                }
                at++;
            }
            return FIRST_FAULT - at;
        }

        private boolean parseArc(int row, int states) {
            rows[row + FROM] = oneOf('0', states);
            if (rows[row + FROM] < 0) {
                return false;
            }
            int act = parseAct();
            rows[row + ACT] = act;
            if (act < 0 || act != SILENT && !parseLetterAndLine(row)) {
                return false;
            }
            rows[row + TO] = oneOf('0', states);
            return rows[row + TO] >= 0;
        }

        private boolean parseLetterAndLine(int row) {
            rows[row + LETTER] = oneOf('a', LETTERS);
            if (rows[row + LETTER] < 0) {
                return false;
            }
            rows[row + LINE] = oneOf('0', LINES);
            return rows[row + LINE] >= 0;
        }

        private int parseAct() {
            if (oneOf('-', 1) == 0) {
                return SILENT;
            }
            if (oneOf('!', 1) == 0) {
                return SEND;
            }
            return oneOf('?', 1) == 0 ? TAKE : -1;
        }

        /** Which of the signs from the first one on comes next; -1: none, and the place of the FAULT is where it stays. */
        private int oneOf(char first, int many) {
            skipBlanks();
            if (at >= size || !isAmong(bytes[at] - first, many)) {
                return -1;
            }
            at++;
            return bytes[at - 1] - first;
        }

        private void skipBlanks() {
            while (at < size && bytes[at] == ' ') {
                at++;
            }
        }
    }

    /** What is FOUND, in rows, one place in each for one PLACE. */
    private static final class Search {
        int count;
        boolean spent;
        final int[] rounds = new int[MOST_FOUND];
        private final int[] states = new int[MOST_FOUND];
        private final int[] words0 = new int[MOST_FOUND];
        private final int[] words1 = new int[MOST_FOUND];
        private final int[] arcs = new int[MOST_FOUND];
        private final int[] origins = new int[MOST_FOUND];

        /** Those FOUND in one round stand behind those of the round before, so that one pass goes round by round. */
        void run(Machine machine, Place target) {
            count = 0;
            spent = false;
            add(target.state, target.words[0], target.words[1], NO_ORIGIN, NO_ORIGIN);
            for (int k = 0; k < MOST_FOUND && k < count && !spent; k++) {
                for (int arc = 0; arc < machine.count && !spent; arc++) {
                    if (machine.part(arc, TO) == states[k]) {
                        lookAhead(machine, arc, k);
                    }
                }
            }
        }

        private void lookAhead(Machine machine, int arc, int k) {
            int state = machine.part(arc, FROM);
            int line = machine.part(arc, LINE);
            int word0 = line == 0 ? machine.wordAhead(arc, words0[k]) : words0[k];
            int word1 = line == 1 ? machine.wordAhead(arc, words1[k]) : words1[k];
            if (firstBelow(state, word0, word1) >= 0) {
                return;
            }
            if (count >= MOST_FOUND || Words.isLonger(word0, MOST_LETTERS) || Words.isLonger(word1, MOST_LETTERS)) {
                spent = true;
                return;
            }
            add(state, word0, word1, arc, k);
        }

        private void add(int state, int word0, int word1, int arc, int origin) {
            states[count] = state;
            words0[count] = word0;
            words1[count] = word1;
            arcs[count] = arc;
            origins[count] = origin;
            rounds[count] = origin < 0 ? 0 : rounds[origin] + 1;
            count++;
        }

        /** The first FOUND that is BELOW a PLACE, which is of the least round too; -1: none. */
        int firstBelow(int state, int word0, int word1) {
            for (int k = 0; k < count; k++) {
                if (isBelowPlace(k, state, word0, word1)) {
                    return k;
                }
            }
            return -1;
        }

        private boolean isBelowPlace(int k, int state, int word0, int word1) {
            return states[k] == state && Words.isIn(words0[k], word0) && Words.isIn(words1[k], word1);
        }

        private boolean isLeast(int k) {
            for (int other = 0; other < count; other++) {
                if (other != k && isBelowPlace(other, states[k], words0[k], words1[k])) {
                    return false;
                }
            }
            return true;
        }

        int countLeast() {
            int many = 0;
            for (int k = 0; k < count; k++) {
                if (isLeast(k)) {
                    many++;
                }
            }
            return many;
        }

        int wordOf(int k, int line) {
            return line == 0 ? words0[k] : words1[k];
        }

        int fact(int k, int what) {
            switch (what) {
                case 0:
                    return states[k];
                case 1:
                    return rounds[k];
                case 2:
                    return Words.size(words0[k]);
                case 3:
                    return Words.size(words1[k]);
                case 4:
                    return arcs[k];
                case 5:
                    return origins[k];
                default:
                    return isLeast(k) ? 1 : 0;
            }
        }

        /** ARC i of THE WAY from the k-th FOUND, which has more than i ARCS. */
        int arcOfWay(int k, int i) {
            int at = k;
            for (int step = 0; step < i && origins[at] >= 0; step++) {
                at = origins[at];
            }
            return arcs[at];
        }
    }

    /**
     * STRICT: PLACES are gone through breadth first, each as one number: three bits a STATE, six a WORD,
     * which hold its three LETTERS.
     */
    private static final class Walk {
        private static final int WORD_BITS = 6;
        private static final int WORD_MASK = (1 << WORD_BITS) - 1;
        private static final int CODES = MOST_STATES << (2 * WORD_BITS);
        /** There are 1 + 3 + 9 + 27 WORDS of at most three LETTERS. */
        private static final int PLACES = MOST_STATES * 40 * 40;

        private final long[] seen = new long[CODES / 64];
        private final int[] queue = new int[PLACES];
        private int tail;

        int fewest(Machine machine, Place start, Place target, int l) {
            Arrays.fill(seen, 0L);
            tail = 0;
            add(start.state, start.words[0], start.words[1]);
            int head = 0;
            for (int steps = 0; steps < PLACES && head < tail; steps++) {
                int end = tail;
                while (head < end) {
                    if (isAimed(queue[head], target)) {
                        return steps;
                    }
                    goOn(machine, queue[head], l);
                    head++;
                }
            }
            return NONE;
        }

        private void add(int state, int word0, int word1) {
            int code = (state << WORD_BITS | word0) << WORD_BITS | word1;
            long bit = 1L << (code & 63);
            if ((seen[code >> 6] & bit) == 0 && tail < PLACES) {
                seen[code >> 6] |= bit;
                queue[tail] = code;
                tail++;
            }
        }

        private static int stateOf(int code) {
            return code >> (2 * WORD_BITS);
        }

        private static int wordOf(int code, int line) {
            return (line == 0 ? code >> WORD_BITS : code) & WORD_MASK;
        }

        private static boolean isAimed(int code, Place target) {
            return stateOf(code) == target.state
                && Words.isIn(target.words[0], wordOf(code, 0))
                && Words.isIn(target.words[1], wordOf(code, 1));
        }

        private void goOn(Machine machine, int code, int l) {
            for (int arc = 0; arc < machine.count; arc++) {
                if (machine.part(arc, FROM) == stateOf(code)) {
                    goBy(machine, arc, code, l);
                }
            }
        }

        private void goBy(Machine machine, int arc, int code, int l) {
            int line = machine.part(arc, LINE);
            int word = machine.wordBehind(arc, wordOf(code, line));
            if (word == Words.CANNOT || Words.isLonger(word, l)) {
                return;
            }
            int to = machine.part(arc, TO);
            add(to, line == 0 ? word : wordOf(code, 0), line == 1 ? word : wordOf(code, 1));
        }
    }

    /** Its items are held as ints in either LANE, so that one row can be used again for both. */
    private static final class Sheet {
        boolean held;
        int size;
        final int[] items = new int[MOST_ITEMS];
        private int lane;

        void hold(int newLane, int n) {
            held = true;
            lane = newLane;
            size = n;
            Arrays.fill(items, 0);
        }

        /** What the machine finds when the SHEET is taken as a row of a LANE: NULL, CAST, or 0 for nothing. */
        int faultAs(int asLane) {
            if (!held) {
                return NULL;
            }
            return asLane == lane ? 0 : CAST;
        }

        void put(int i, int v) {
            items[i] = lane == BYTE_LANE ? (byte) v : v;
        }
    }
}
