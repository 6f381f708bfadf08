import java.util.ArrayList;
import java.util.List;

/**
 * Each edge that a promise names, by the promise's number: the last input that is still accepted and the first that is
 * not, on either side, the ends of int and long, and that a refused call changes nothing, but as told.
 */
public final class BoundariesTest {
    private static final int BAD = Lines.BAD, NOT = Lines.NOT, FULL = Lines.FULL, NONE = Lines.NONE;
    private static final int NULL = Lines.NULL, CAST = Lines.CAST, INDEX = Lines.INDEX, SIZE = Lines.SIZE;
    private static final int LOWEST = Integer.MIN_VALUE, HIGHEST = Integer.MAX_VALUE;

    private static final String SENDS = "0!a00;0!b00;0!c00;0!a10;0!b10;0!c10";
    private static final String TEN = "abcabcabca";

    public static void main(String[] args) throws ReflectiveOperationException {
        List<String> parts = new ArrayList<>();
        for (int promise = 1; promise <= 25; promise++) {
            parts.add("promise" + promise);
        }
        Suite.run(BoundariesTest.class, parts);
    }

    private static void due(String what, int got, int want) {
        Suite.due(what, got, want);
    }

    private static void due(String what, String got, String want) {
        Suite.due(what + " (" + got + " for " + want + ")", got.equals(want) ? 1 : 0, 1);
    }

    /** Numbers that are not first .. last: next to them, at the ends of int, and such as have the lowest bits of one that is. */
    private static int[] outside(int first, int last) {
        return new int[] {
            first - 1, last + 1, first - 2, last + 2, LOWEST, LOWEST + 1, LOWEST + first, HIGHEST, HIGHEST - 1,
            first + 256, first + 65536, first - 256, first - 65536, 1 << 30};
    }

    // ---- promise 1

    static void promise1_fourStates() {
        Lines x = new Lines();
        due("aim(3)", x.aim(3), 1);
        due("aim(4)", x.aim(4), BAD);
        due("arc to 3", x.arc(3, 0, 0, 0, 3), 0);
        due("arc to 4", x.arc(0, 0, 0, 0, 4), BAD);
        due("states", x.states(4), 4);
    }

    static void promise1_twoRows() {
        Lines x = new Lines();
        due("line 0", x.bag(0, false), 0);
        due("line 1", x.bag(1, false), 0);
    }

    static void promise1_noArcs() {
        Lines x = new Lines();
        due("told", x.told(0, 0), BAD);
        due("go", x.go(0), BAD);
        due("unarc", x.unarc(), NOT);
        due("the first arc", x.arc(0, 0, 0, 0, 0), 0);
    }

    static void promise1_objectsHaveNothingInCommon() {
        Lines x = Twins.full();
        due("now of a new one", new Lines().place(), "0  ");
        due("the aim of a new one", new Lines().foundPlace(0), "0   round 0");
        due("the bag of a new one", new Lines().bag(1, false), 0);
        due("arcs of a new one", new Lines().countArcs(), 0);
        due("bytes of a new one", new Lines().type('0', 1), 1);
        due("sheet of a new one", new Lines().drop(0), NULL);
        due("arcs", x.countArcs(), 20);
    }

    // ---- promise 2

    static void promise2_nIs1To8() {
        for (int n = 1; n <= 8; n++) {
            Lines x = new Lines();
            due("states(" + n + ")", x.states(n), 4);
            due("what it was", x.states(4), n);
        }
        for (int n : outside(1, 8)) {
            due("states(" + n + ")", new Lines().states(n), BAD);
        }
    }

    static void promise2_arcsGo() {
        Lines x = Twins.full();
        due("states, as it was", x.states(5), 5);
        due("arcs", x.countArcs(), 0);
        due("unarc", x.unarc(), NOT);
        due("the first again", x.arc(4, 0, 0, 0, 4), 0);
    }

    static void promise2_theAimIsAsAtFirst() {
        Lines x = Twins.full();
        x.states(5);
        due("the aim", x.foundPlace(0), "0   round 0");
        due("found", x.found(), 1);
        Lines less = new Lines();
        less.aimAt(3, "a", "b");
        less.states(1);
        due("the aim of one state", less.foundPlace(0), "0   round 0");
        due("far", less.far(), 0);
    }

    static void promise2_bagsTheTapeAndSheetsStay() {
        Lines x = Twins.full();
        x.states(8);
        due("sheet 0", x.drop(0), 5);
        due("sheet 1", x.drop(1), 10);
        due("the tape", x.type('0', 1), FULL);
        due("bag 0", x.bag(0, true), 0);
        due("bag 1", x.bag(1, true), 1);
    }

    static void promise2_refusedItChangesNothing() {
        for (int n : outside(1, 8)) {
            Twins.dueRefusedAnywhere("states(" + n + ")", BAD, x -> x.states(n));
        }
    }

    // ---- promise 3

    static void promise3_aLineIsABagOrARow() {
        for (int line = 0; line < 2; line++) {
            Lines x = Lines.of(1, SENDS);
            due("to a bag", x.bag(line, true), 0);
            due("to a bag again", x.bag(line, true), 1);
            x.goAll(2, 0, 5, 3);
            due("a bag", x.word(line), "ac");
            due("the other, a row", x.word(1 - line), "ca");
            due("to a row", x.bag(line, false), 1);
            due("to a row again", x.bag(line, false), 0);
            x.goAll(2, 0, 5, 3);
            due("a row", x.word(line), "ca");
        }
    }

    static void promise3_theAimIsAsAtFirst() {
        for (int line = 0; line < 2; line++) {
            for (int is = 0; is < 2; is++) {
                Lines x = new Lines();
                x.aimAt(3, "ba", "ab");
                x.bag(line, is == 1);
                due("the aim", x.foundPlace(0), "0   round 0");
            }
        }
    }

    static void promise3_arcsStay() {
        Lines x = Twins.full();
        due("bag", x.bag(0, true), 0);
        due("arcs", x.countArcs(), 20);
        Suite.due("the last", x.arcParts(19), List.of(0, 2, 0, 0, 3));
    }

    static void promise3_badIsALineThatThereIsNot() {
        for (int line : outside(0, 1)) {
            Twins.dueRefusedAnywhere("bag(" + line + ", true)", BAD, x -> x.bag(line, true));
            Twins.dueRefusedAnywhere("bag(" + line + ", false)", BAD, x -> x.bag(line, false));
        }
    }

    // ---- promise 4

    static void promise4_statesOfAnArc() {
        for (int n = 1; n <= 8; n++) {
            Lines x = new Lines();
            x.states(n);
            due("the last state", x.arc(n - 1, 1, 0, 0, n - 1), 0);
            for (int state : outside(0, n - 1)) {
                due("from " + state + " of " + n, x.arc(state, 1, 0, 0, 0), BAD);
                due("to " + state + " of " + n, x.arc(0, 1, 0, 0, state), BAD);
            }
        }
    }

    static void promise4_actLineAndLetterOfAnArc() {
        Lines x = new Lines();
        for (int act : outside(0, 2)) {
            due("act " + act, x.arc(0, act, 0, 0, 0), BAD);
        }
        for (int act = 1; act <= 2; act++) {
            for (int line : outside(0, 1)) {
                due("line " + line, x.arc(0, act, line, 0, 0), BAD);
            }
            for (int letter : outside(0, 2)) {
                due("letter " + letter, x.arc(0, act, 1, letter, 0), BAD);
            }
        }
        due("none came", x.countArcs(), 0);
        int many = 0;
        for (int act = 1; act <= 2; act++) {
            for (int line = 0; line < 2; line++) {
                for (int letter = 0; letter < 3; letter++) {
                    due("arc", x.arc(3, act, line, letter, 2), many);
                    Suite.due("told", x.arcParts(many), List.of(3, act, line, letter, 2));
                    many++;
                }
            }
        }
    }

    static void promise4_ofActNoneLineAndLetterAreNotLookedAt() {
        for (int v : outside(0, 2)) {
            Lines x = new Lines();
            due("line " + v, x.arc(1, 0, v, 0, 2), 0);
            due("letter " + v, x.arc(1, 0, 0, v, 2), 1);
            due("both " + v, x.arc(1, 0, v, v, 2), 2);
            for (int arc = 0; arc < 3; arc++) {
                Suite.due("told", x.arcParts(arc), List.of(1, 0, 0, 0, 2));
            }
            due("from", x.arc(4, 0, v, v, 0), BAD);
            due("to", x.arc(0, 0, v, v, 4), BAD);
        }
    }

    static void promise4_the20thComesAndThe21stIsFull() {
        Lines x = new Lines();
        for (int arc = 0; arc < 20; arc++) {
            due("arc", x.arc(0, 1, 1, 2, 3), arc);
        }
        due("the 21st", x.arc(0, 1, 1, 2, 3), FULL);
        due("the 21st, none", x.arc(0, 0, 0, 0, 0), FULL);
        due("unarc", x.unarc(), 19);
        due("the 20th again", x.arc(1, 0, 0, 0, 1), 19);
        due("the 21st again", x.arc(1, 0, 0, 0, 1), FULL);
    }

    static void promise4_badGoesBeforeFull() {
        Lines x = Twins.full();
        due("from", x.arc(5, 0, 0, 0, 0), BAD);
        due("act", x.arc(0, 3, 0, 0, 0), BAD);
        due("line", x.arc(0, 1, 2, 0, 0), BAD);
        due("letter", x.arc(0, 1, 0, 3, 0), BAD);
        due("to", x.arc(0, 0, 0, 0, 5), BAD);
    }

    static void promise4_refusedItChangesNothing() {
        Twins.dueRefusedAnywhere("from 8", BAD, x -> x.arc(8, 0, 0, 0, 0));
        Twins.dueRefusedAnywhere("act -1", BAD, x -> x.arc(0, -1, 0, 0, 0));
        Twins.dueRefusedAnywhere("line 2", BAD, x -> x.arc(0, 1, 2, 0, 0));
        Twins.dueRefusedAnywhere("letter 3", BAD, x -> x.arc(0, 2, 0, 3, 0));
        Twins.dueRefusedAnywhere("to -1", BAD, x -> x.arc(0, 0, 0, 0, -1));
        Twins.dueRefused("the 21st", Twins::full, FULL, x -> x.arc(0, 0, 0, 0, 1));
    }

    static void promise4_theAimStays() {
        Lines x = new Lines();
        x.aimAt(3, "ba", "c");
        x.arc(0, 0, 0, 0, 0);
        due("the aim", x.foundPlace(0), "3 ba c round 0");
    }

    // ---- promise 5

    static void promise5_theLatestArcGoes() {
        Lines x = new Lines();
        for (int arc = 0; arc < 20; arc++) {
            x.arc(0, 1, 1, arc % 3, 0);
        }
        for (int left = 19; left >= 0; left--) {
            due("unarc", x.unarc(), left);
            due("it is gone", x.told(left, 0), BAD);
            due("the one before it", x.told(left - 1, 3), left == 0 ? BAD : (left - 1) % 3);
        }
        due("of none", x.unarc(), NOT);
        due("of none again", x.unarc(), NOT);
        due("the first", x.arc(0, 0, 0, 0, 0), 0);
    }

    static void promise5_refusedItChangesNothing() {
        Twins.dueRefused("unarc", Lines::new, NOT, Lines::unarc);
        Twins.dueRefused("unarc, with letters wanted", () -> new Lines().aimAt(3, "ab", "c"), NOT, Lines::unarc);
    }

    static void promise5_theAimStays() {
        Lines x = Lines.of(4, "0-1");
        x.aimAt(3, "ba", "c");
        x.unarc();
        due("the aim", x.foundPlace(0), "3 ba c round 0");
    }

    // ---- promise 6

    static void promise6_ofAnArcItsFiveParts() {
        Lines x = new Lines();
        x.states(8);
        x.arc(7, 2, 1, 2, 6);
        Suite.due("told", x.arcParts(0), List.of(7, 2, 1, 2, 6));
        for (int what : outside(0, 4)) {
            due("what " + what, x.told(0, what), BAD);
        }
    }

    static void promise6_lineAndLetterOfNoneAre0() {
        Lines x = new Lines();
        x.arc(3, 0, 1, 2, 3);
        Suite.due("told", x.arcParts(0), List.of(3, 0, 0, 0, 3));
        x.arc(3, 1, 1, 2, 3);
        x.unarc();
        x.arc(3, 0, 1, 2, 3);
        Suite.due("where another was", x.arcParts(1), List.of(3, 0, 0, 0, 3));
    }

    static void promise6_badIsAnArcThatThereIsNot() {
        for (int many = 0; many <= 20; many++) {
            Lines x = new Lines();
            for (int arc = 0; arc < many; arc++) {
                x.arc(0, 0, 0, 0, 3);
            }
            due("the last of " + many, x.told(many - 1, 4), many == 0 ? BAD : 3);
            due("behind it", x.told(many, 4), BAD);
        }
        for (int arc : outside(0, 19)) {
            for (int what = 0; what < 5; what++) {
                due("told(" + arc + ", " + what + ")", Twins.full().told(arc, what), BAD);
            }
        }
    }

    // ---- promise 7

    static void promise7_nIs1To8() {
        for (int n = 1; n <= 8; n++) {
            due("n " + n, new Lines().type(Lines.packed("00000000"), n), n);
        }
        for (int n : outside(1, 8)) {
            due("n " + n, new Lines().type(Lines.packed("00000000"), n), BAD);
        }
    }

    static void promise7_theLowestBytesOfTheseTheHighestFirst() {
        Lines x = new Lines();
        due("eight", x.type(Lines.packed("0!c11;1?"), 8), 8);
        due("three of eight", x.type(Lines.packed("~~~~~b02"), 3), 11);
        due("read", x.read(), 2);
        Suite.due("arc 0", x.arcParts(0), List.of(0, 1, 1, 2, 1));
        Suite.due("arc 1", x.arcParts(1), List.of(1, 2, 0, 1, 2));
        for (int n = 1; n <= 8; n++) {
            Lines y = new Lines();
            y.type(Lines.packed("0-1" + " ".repeat(5)), 8);
            due("blanks", y.type(Lines.packed("~~~~~~~~".substring(n) + " ".repeat(n)), n), 8 + n);
            due("read", y.read(), 1);
        }
    }

    static void promise7_bytesAre32To126() {
        for (int b = 0; b < 256; b++) {
            boolean can = b >= 32 && b <= 126;
            for (int n = 1; n <= 8; n++) {
                for (int at = 0; at < n; at++) {
                    long w = Lines.packed("00000000") & ~(255L << 8 * at) | (long) b << 8 * at;
                    due("byte " + b + " at " + at + " of " + n, new Lines().type(w, n), can ? n : BAD);
                }
            }
        }
    }

    static void promise7_bytesAboveTheNLowestAreNotLookedAt() {
        for (int n = 1; n < 8; n++) {
            long low = Lines.packed("0".repeat(n));
            due("zeros above " + n, new Lines().type(low, n), n);
            due("ones above " + n, new Lines().type(-1L << 8 * n | low, n), n);
            due("one byte more", new Lines().type(low, n + 1), BAD);
        }
    }

    static void promise7_theEndsOfLong() {
        for (int n = 1; n <= 8; n++) {
            for (long w : new long[] {Long.MIN_VALUE, Long.MAX_VALUE, 0, -1, 1L << 32}) {
                due("type(" + w + ", " + n + ")", new Lines().type(w, n), BAD);
            }
        }
        due("the highest", new Lines().type(0x7e7e7e7e7e7e7e7eL, 8), 8);
        due("the lowest", new Lines().type(0x2020202020202020L, 8), 8);
        due("one bit more", new Lines().type(0xfe7e7e7e7e7e7e7eL, 8), BAD);
        due("below 0, seven bytes", new Lines().type(0xff7e7e7e7e7e7e7eL, 7), 7);
    }

    /** A tape of so many blanks. */
    private static Lines typed(int many) {
        Lines x = new Lines();
        x.typeText(" ".repeat(many));
        return x;
    }

    static void promise7_the130thByteComesAndThe131stIsFull() {
        for (int n = 1; n <= 8; n++) {
            long w = Lines.packed("        ");
            due(n + " up to 130", typed(130 - n).type(w, n), 130);
            due(n + " up to 131", typed(131 - n).type(w, n), FULL);
            due(n + " behind 130", typed(130).type(w, n), FULL);
            due(n + " up to 129", typed(129 - n).type(w, n), 129);
        }
        Lines x = typed(125);
        due("six", x.type(Lines.packed("      "), 6), FULL);
        due("five", x.type(Lines.packed("     "), 5), 130);
        due("read", x.read(), -150);
        due("behind read", x.type(Lines.packed("        "), 8), 8);
    }

    static void promise7_badGoesBeforeFull() {
        Lines x = typed(130);
        due("n 0", x.type(' ', 0), BAD);
        due("n 9", x.type(' ', 9), BAD);
        due("byte 31", x.type(31, 1), BAD);
        due("byte 127", x.type(127, 1), BAD);
        due("full", x.type(32, 1), FULL);
        due("full", x.type(126, 1), FULL);
    }

    static void promise7_refusedItChangesNothing() {
        Twins.dueRefusedAnywhere("n 0", BAD, x -> x.type(Lines.packed("0-1"), 0));
        Twins.dueRefusedAnywhere("n 9", BAD, x -> x.type(Lines.packed("0-1;0-1;"), 9));
        Twins.dueRefusedAnywhere("the first byte", BAD, x -> x.type(0x1f202020L, 4));
        Twins.dueRefusedAnywhere("the last byte", BAD, x -> x.type(0x2020207fL, 4));
        Twins.dueRefused("the 131st byte", Twins::full, FULL, x -> x.type(' ', 1));
        Twins.dueRefused("the 131st byte of eight", () -> typed(123), FULL, x -> x.type(Lines.packed("0-1;0-1;"), 8));
    }

    static void promise7_arcsTheAimAndNowStay() {
        Lines x = Twins.midway();
        x.type(' ', 1);
        due("arcs", x.countArcs(), 5);
        due("now", x.place(), "2 a b");
        due("the aim", x.foundPlace(0), "3  b round 0");
    }

    // ---- promise 8

    static void promise8_theTapeIsArcsInPlaceOfAll() {
        Lines x = Twins.full();
        due("read", x.read(), 2);
        due("arcs", x.countArcs(), 2);
        Suite.due("arc 0", x.arcParts(0), List.of(1, 1, 0, 1, 2));
        Suite.due("arc 1", x.arcParts(1), List.of(3, 2, 1, 0, 4));
        due("unarc", x.unarc(), 1);
    }

    static void promise8_oneTo20Arcs() {
        due("none", new Lines().read(), -20);
        due("one", new Lines().readText("0-0"), 1);
        due("20", new Lines().readText("0-0;".repeat(19) + "0-0"), 20);
        due("21", new Lines().readText("0-0;".repeat(20) + "0-0"), -99);
    }

    static void promise8_theTapeIsEmptyThen() {
        Lines x = new Lines();
        due("read", x.readText("0-1"), 1);
        due("type", x.type('0', 1), 1);
        due("read of a fault", x.read(), -21);
        due("type behind a fault", x.type('0', 1), 1);
        due("type", x.type('-', 1), 2);
        due("read", x.read(), -22);
        due("read of none", x.read(), -20);
        due("arcs", x.countArcs(), 1);
    }

    static void promise8_aFaultLeavesAllButTheTape() {
        for (String text : List.of("", "0", "0-0;", "0-0;9", "0-0 0-0", "x", "0-0;".repeat(20), " ".repeat(130), ";")) {
            Lines x = Lines.of(3, "0!a01;1?b12");
            x.aimAt(2, "c", "");
            x.sheet(0, 1, 7);
            x.go(0);
            due("a fault of " + text, x.readText(text) <= -20 ? 1 : 0, 1);
            Lines twin = Lines.of(3, "0!a01;1?b12");
            twin.aimAt(2, "c", "");
            twin.sheet(0, 1, 7);
            twin.go(0);
            Suite.due("behind a fault of " + text, x.everything(), twin.everything());
        }
    }

    static void promise8_theAimAndSheetsStay() {
        Lines x = new Lines();
        x.aimAt(3, "ba", "c");
        x.sheet(1, 0, 9);
        due("read", x.readText("0-0"), 1);
        due("the aim", x.foundPlace(0), "3 ba c round 0");
        due("the sheet", x.drop(1), 9);
    }

    // ---- promise 9

    private static Lines withSheet(int lane, int size) {
        Lines x = new Lines();
        x.sheet(1, lane, size);
        return x;
    }

    static void promise9_nIs0To12() {
        for (int n = 0; n <= 12; n++) {
            due("n " + n, withSheet(0, 60).arcs(1, 0, 0, n), n);
            due("n " + n, withSheet(1, 60).arcs(1, 1, 60 - 5 * n, n), n);
        }
        for (int n : outside(0, 12)) {
            due("n " + n, withSheet(0, 60).arcs(1, 0, 0, n), BAD);
        }
    }

    static void promise9_badIsASheetOrLaneThatThereIsNot() {
        for (int v : outside(0, 1)) {
            due("sheet " + v, withSheet(0, 60).arcs(v, 0, 0, 1), BAD);
            due("lane " + v, withSheet(0, 60).arcs(1, v, 0, 1), BAD);
            due("lane " + v + " of nothing", withSheet(0, 60).arcs(0, v, 0, 1), BAD);
        }
    }

    static void promise9_nullIsASheetThatHoldsNothing() {
        Lines x = withSheet(0, 60);
        due("sheet 0", x.arcs(0, 0, 0, 0), NULL);
        due("sheet 0, lane 1", x.arcs(0, 1, 0, 12), NULL);
        due("sheet 1", x.arcs(1, 0, 0, 0), 0);
        x.drop(1);
        due("dropped", x.arcs(1, 0, 0, 0), NULL);
        x.sheet(1, 0, 0);
        due("a row of no items is not nothing", x.arcs(1, 0, 0, 0), 0);
    }

    static void promise9_castIsARowOfTheOtherLane() {
        for (int lane = 0; lane < 2; lane++) {
            Lines x = withSheet(lane, 10);
            due("its lane", x.arcs(1, lane, 0, 1), 1);
            due("the other lane", x.arcs(1, 1 - lane, 0, 1), CAST);
            due("the other lane, none", x.arcs(1, 1 - lane, 0, 0), CAST);
            x.sheet(1, 1 - lane, 10);
            due("the other lane now", x.arcs(1, 1 - lane, 0, 1), 2);
            due("its lane of before", x.arcs(1, lane, 0, 1), CAST);
        }
    }

    static void promise9_indexIsAnItemThatThereIsNot() {
        for (int size = 0; size <= 60; size++) {
            for (int n : new int[] {0, 1, 2, 12}) {
                int last = size - 5 * n;
                Lines x = withSheet(size % 2, size);
                due("the last, n " + n + ", size " + size, x.arcs(1, size % 2, last, n), last < 0 ? INDEX : n);
                due("behind it, n " + n + ", size " + size, x.arcs(1, size % 2, last + 1, n), INDEX);
                due("-1", x.arcs(1, size % 2, -1, n), INDEX);
            }
        }
        for (int i : outside(0, 60)) {
            for (int n = 0; n <= 12; n += 6) {
                due("arcs from " + i, withSheet(1, 60).arcs(1, 1, i, n), INDEX);
            }
        }
    }

    static void promise9_notIsAnArcThatIsNotAsTold() {
        int[] lasts = {3, 2, 1, 2, 3};
        for (int lane = 0; lane < 2; lane++) {
            for (int part = 0; part < 5; part++) {
                Lines x = withSheet(lane, 15);
                for (int arc = 0; arc < 3; arc++) {
                    x.putItems(1, lane, 5 * arc, 0, 1, 0, 0, 0);
                }
                for (int arc = 0; arc < 3; arc++) {
                    x.item(1, lane, 5 * arc + part, lasts[part]);
                    due("the last that is", x.arcs(1, lane, 0, 3), 3 * arc + 3);
                    x.item(1, lane, 5 * arc + part, lasts[part] + 1);
                    due("the first that is not, part " + part, x.arcs(1, lane, 0, 3), NOT);
                    x.item(1, lane, 5 * arc + part, -1);
                    due("-1, part " + part, x.arcs(1, lane, 0, 3), NOT);
                    x.item(1, lane, 5 * arc + part, part == 1 ? 1 : 0);
                }
            }
        }
    }

    static void promise9_notLooksAtStatesAsThereAreNow() {
        for (int n = 1; n <= 8; n++) {
            Lines x = withSheet(1, 5);
            x.states(n);
            x.putItems(1, 1, 0, n - 1, 0, 0, 0, n - 1);
            due("the last state", x.arcs(1, 1, 0, 1), 1);
            x.item(1, 1, 0, n);
            due("from N", x.arcs(1, 1, 0, 1), NOT);
            x.item(1, 1, 0, 0);
            x.item(1, 1, 4, n);
            due("to N", x.arcs(1, 1, 0, 1), NOT);
        }
    }

    static void promise9_ofActNoneLineAndLetterAreNotLookedAt() {
        for (int v : outside(0, 2)) {
            Lines x = withSheet(1, 5);
            x.putItems(1, 1, 0, 1, 0, v, v, 2);
            due("arcs", x.arcs(1, 1, 0, 1), 1);
            Suite.due("told", x.arcParts(0), List.of(1, 0, 0, 0, 2));
        }
    }

    static void promise9_the20thComesAndThe21stIsFull() {
        for (int n = 0; n <= 12; n++) {
            Lines x = withSheet(0, 60);
            for (int arc = 0; arc < 20 - n; arc++) {
                x.arc(1, 0, 0, 0, 1);
            }
            if (n < 12) {
                due("one more than fit", x.arcs(1, 0, 0, n + 1), FULL);
                due("none has come", x.told(20 - n, 0), BAD);
            }
            due("as many as fit", x.arcs(1, 0, 0, n), 20);
            due("none more", x.arcs(1, 0, 0, 0), 20);
            due("one more", x.arcs(1, 0, 0, 1), FULL);
        }
    }

    static void promise9_refusedItChangesNothing() {
        Twins.dueRefusedAnywhere("sheet 2", BAD, x -> x.arcs(2, 0, 0, 1));
        Twins.dueRefusedAnywhere("lane 2", BAD, x -> x.arcs(0, 2, 0, 1));
        Twins.dueRefusedAnywhere("n 13", BAD, x -> x.arcs(0, 0, 0, 13));
        Twins.dueRefusedAnywhere("n -1", BAD, x -> x.arcs(0, 0, 0, -1));
        Twins.dueRefused("nothing", Twins::midway, NULL, x -> x.arcs(0, 0, 0, 0));
        Twins.dueRefused("the other lane", Twins::midway, CAST, x -> x.arcs(1, 1, 0, 0));
        Twins.dueRefused("item 1 of none", Twins::midway, INDEX, x -> x.arcs(1, 0, 1, 0));
        Twins.dueRefused("item -1 of none", Twins::midway, INDEX, x -> x.arcs(1, 0, -1, 0));
        Twins.dueRefused("the second one", Twins::full, NOT, x -> x.arcs(1, 1, 0, 2));
        Twins.dueRefused("the 21st", Twins::full, FULL, x -> x.arcs(1, 1, 0, 1));
        Twins.dueRefused("the second one", BoundariesTest::oneAndAWrongOne, NOT, x -> x.arcs(0, 0, 0, 2));
    }

    /** There is room for both, and the first is as told. */
    private static Lines oneAndAWrongOne() {
        Lines x = Twins.midway();
        x.sheet(0, 0, 10);
        return x.putItems(0, 0, 0, 1, 2, 1, 2, 3, 4, 1, 1, 1, 1);
    }

    static void promise9_theAimTheTapeAndTheSheetStay() {
        Lines x = withSheet(0, 5);
        x.aimAt(3, "ba", "c");
        x.type('0', 1);
        due("arcs", x.arcs(1, 0, 0, 1), 1);
        due("the aim", x.foundPlace(0), "3 ba c round 0");
        due("the tape", x.type('0', 1), 2);
        due("the sheet", x.drop(1), 5);
        due("the arc is there yet", x.countArcs(), 1);
    }

    // ---- promise 10

    static void promise10_badIsAnArcThatThereIsNot() {
        for (int many = 0; many <= 20; many++) {
            Lines x = new Lines();
            for (int arc = 0; arc < many; arc++) {
                x.arc(0, 0, 0, 0, 0);
            }
            due("the last of " + many, x.go(many - 1), many == 0 ? BAD : 0);
            due("behind it", x.go(many), BAD);
        }
        for (int arc : outside(0, 19)) {
            due("go(" + arc + ")", Twins.full().go(arc), BAD);
        }
        Lines x = Lines.of(2, "0-0;0-1");
        x.unarc();
        due("one that is gone", x.go(1), BAD);
    }

    static void promise10_theStateIsAnswered() {
        Lines x = Lines.of(8, "0-7;7!a01;1?a07;7-0");
        due("none", x.go(0), 7);
        due("send", x.go(1), 1);
        due("take", x.go(2), 7);
        due("none", x.go(3), 0);
    }

    static void promise10_notIsAnArcOfAnotherState() {
        Lines x = Lines.of(3, "1-2;1!a02;1?a02;2-1;0!a00");
        x.go(4);
        due("none", x.go(0), NOT);
        due("send", x.go(1), NOT);
        due("take of a letter that is there", x.go(2), NOT);
        due("the state that it leads from is not where it leads to", x.go(3), NOT);
        due("now", x.place(), "0 a ");
    }

    static void promise10_notIsALetterThatIsNotThere() {
        for (int line = 0; line < 2; line++) {
            Lines x = Lines.of(2, SENDS + ";0?a" + line + "1");
            due("of the empty word", x.go(6), NOT);
            x.goAll(3 * line + 1, 3 * line, 3 - 3 * line);
            due("ba, and a on the other line", x.go(6), NOT);
            x.lose(line, 0);
            due("a", x.go(6), 1);
            x.bag(line, true);
            due("of the empty bag", x.go(6), NOT);
            x.goAll(3 * line + 1, 3 - 3 * line);
            due("b in the bag, and a on the other line", x.go(6), NOT);
            x.go(3 * line);
            due("a and b in the bag", x.go(6), 1);
            due("b is left", x.word(line), "b");
        }
    }

    static void promise10_fullIsAWordOfTenLetters() {
        for (int line = 0; line < 2; line++) {
            for (int bag = 0; bag < 2; bag++) {
                Lines x = Lines.of(2, SENDS + ";0-1;1!c" + line + "0;1?a" + line + "0");
                x.bag(line, bag == 1);
                x.goTimes(3 * line, 9);
                due("the tenth", x.go(3 * line), 0);
                due("the 11th", x.go(3 * line), FULL);
                due("another 11th", x.go(3 * line + 2), FULL);
                due("the other line", x.go(3 - 3 * line), 0);
                due("none", x.go(6), 1);
                due("an 11th to another state", x.go(7), FULL);
                due("the state", x.now(0, -2), 1);
                due("take", x.go(8), 0);
                due("how many", x.now(line, -1), 9);
                due("the tenth again", x.go(3 * line + 1), 0);
                due("the 11th again", x.go(3 * line + 1), FULL);
            }
        }
    }

    static void promise10_refusedItChangesNothing() {
        Twins.dueRefusedAnywhere("go(20)", BAD, x -> x.go(20));
        Twins.dueRefusedAnywhere("go(-1)", BAD, x -> x.go(-1));
        Twins.dueRefused("of another state", Twins::full, NOT, x -> x.go(2));
        Twins.dueRefused("not in front", Twins::full, NOT, x -> x.go(3));
        Twins.dueRefused("not in the bag", Twins::full, NOT, x -> x.go(4));
        Twins.dueRefused("an 11th in the row", Twins::full, FULL, x -> x.go(0));
        Twins.dueRefused("an 11th in the bag", Twins::full, FULL, x -> x.go(16));
        Twins.dueRefused("of another state", Twins::midway, NOT, x -> x.go(3));
        Twins.dueRefused("not in front", Twins::midway, NOT, x -> x.go(4));
    }

    // ---- promise 11

    static void promise11_theIthLetterIsLost() {
        for (int line = 0; line < 2; line++) {
            for (int size = 1; size <= 10; size++) {
                for (int i = 0; i < size; i++) {
                    Lines x = Lines.of(1, SENDS);
                    for (int k = 0; k < size; k++) {
                        x.go(3 * line + k % 3);
                    }
                    due("lose", x.lose(line, i), i % 3);
                    due("word", x.word(line), TEN.substring(0, i) + TEN.substring(i + 1, size));
                }
            }
        }
    }

    static void promise11_badIsALetterThatThereIsNot() {
        for (int line = 0; line < 2; line++) {
            Lines x = Lines.of(1, SENDS);
            for (int size = 0; size <= 10; size++) {
                due("behind the last of " + size, x.lose(line, size), BAD);
                due("-1 of " + size, x.lose(line, -1), BAD);
                due("how many", x.now(line, -1), size);
                x.go(3 * line);
            }
            for (int i : outside(0, 9)) {
                due("letter " + i, x.lose(line, i), BAD);
            }
            due("the other line", x.lose(1 - line, 0), BAD);
        }
    }

    static void promise11_badIsALineThatThereIsNot() {
        for (int line : outside(0, 1)) {
            due("line " + line, Twins.full().lose(line, 0), BAD);
        }
    }

    static void promise11_ofABagTheOrderIsThatOfLetters() {
        Lines x = Lines.of(1, SENDS);
        x.bag(0, true);
        x.goAll(2, 1, 0, 2, 0);
        due("aabcc", x.lose(0, 2), 1);
        due("aacc", x.lose(0, 2), 2);
        due("aac", x.lose(0, 0), 0);
        due("word", x.word(0), "ac");
    }

    static void promise11_refusedItChangesNothing() {
        Twins.dueRefusedAnywhere("line 2", BAD, x -> x.lose(2, 0));
        Twins.dueRefusedAnywhere("line -1", BAD, x -> x.lose(-1, 0));
        Twins.dueRefusedAnywhere("letter 10", BAD, x -> x.lose(0, 10));
        Twins.dueRefusedAnywhere("letter -1", BAD, x -> x.lose(1, -1));
    }

    // ---- promise 12

    static void promise12_letterIOfALine() {
        for (int line = 0; line < 2; line++) {
            Lines x = Lines.of(1, SENDS);
            for (int size = 0; size <= 10; size++) {
                due("how many", x.now(line, -1), size);
                due("the last", size == 0 ? 0 : x.now(line, size - 1), size == 0 ? 0 : (size - 1) % 3);
                due("behind the last", x.now(line, size), BAD);
                x.go(3 * line + size % 3);
            }
            for (int i : new int[] {-3, -4, 10, 11, LOWEST, LOWEST + 1, HIGHEST, 256, 1 << 30, -256, -1 - 65536}) {
                due("now(" + line + ", " + i + ")", x.now(line, i), BAD);
            }
        }
    }

    static void promise12_theStateWhateverLine() {
        Lines x = Lines.of(8, "0-7");
        x.go(0);
        for (int line : outside(0, 1)) {
            due("state", x.now(line, -2), 7);
        }
        due("state", x.now(0, -2), 7);
        due("state", x.now(1, -2), 7);
    }

    static void promise12_badIsALineThatThereIsNot() {
        for (int line : outside(0, 1)) {
            Lines x = Twins.full();
            due("how many on " + line, x.now(line, -1), BAD);
            due("letter 0 on " + line, x.now(line, 0), BAD);
            due("letter 9 on " + line, x.now(line, 9), BAD);
            due("letter -3 on " + line, x.now(line, -3), BAD);
        }
    }

    static void promise12_itChangesNothing() {
        Twins.dueRefusedAnywhere("now(2, -1)", BAD, x -> x.now(2, -1));
        Twins.dueRefusedAnywhere("now(0, 10)", BAD, x -> x.now(0, 10));
        Twins.dueRefusedAnywhere("now(0, -3)", BAD, x -> x.now(0, -3));
        Twins.dueRefused("now(0, -1)", Twins::full, 10, x -> x.now(0, -1));
    }

    // ---- promise 13

    static void promise13_nowIsState0WithoutLetters() {
        Lines x = Twins.full();
        due("reset", x.reset(), 1);
        due("now", x.place(), "0  ");
        Lines other = Twins.midway();
        due("reset", other.reset(), 1);
        due("now", other.place(), "0  ");
        due("reset again", other.reset(), 1);
        due("of a new one", new Lines().reset(), 1);
    }

    static void promise13_allElseStays() {
        Lines x = Twins.midway();
        x.reset();
        Lines twin = Lines.of(4, "0!a01;1!b12;2?a03;0-3;2?c02");
        twin.aimAt(3, "", "b");
        twin.typeText("0-1");
        twin.sheet(1, 0, 0);
        Suite.due("everything", x.everything(), twin.everything());
    }

    // ---- promise 14

    static void promise14_theAimIsAStateWithoutLetters() {
        for (int n = 1; n <= 8; n++) {
            for (int state = 0; state < n; state++) {
                Lines x = new Lines();
                x.states(n);
                x.aimAt(n - 1, "abc", TEN);
                due("aim(" + state + ") of " + n, x.aim(state), 1);
                due("the aim", x.foundPlace(0), state + "   round 0");
            }
        }
    }

    static void promise14_badIsAStateThatThereIsNot() {
        for (int n = 1; n <= 8; n++) {
            Lines x = new Lines();
            x.states(n);
            for (int state : outside(0, n - 1)) {
                due("aim(" + state + ") of " + n, x.aim(state), BAD);
            }
        }
    }

    static void promise14_refusedItChangesNothing() {
        for (int state : outside(0, 7)) {
            Twins.dueRefusedAnywhere("aim(" + state + ")", BAD, x -> x.aim(state));
        }
        Twins.dueRefused("aim(4) of four", Twins::midway, BAD, x -> x.aim(4));
        Twins.dueRefused("aim(5) of five", Twins::full, BAD, x -> x.aim(5));
    }

    // ---- promise 15

    static void promise15_oneLetterMoreBehindOrInTheBag() {
        for (int line = 0; line < 2; line++) {
            for (int bag = 0; bag < 2; bag++) {
                Lines x = new Lines();
                x.bag(line, bag == 1);
                x.aim(2);
                due("c", x.want(line, 2), 1);
                due("a", x.want(line, 0), 2);
                due("b", x.want(line, 1), 3);
                due("a", x.want(line, 0), 4);
                String word = bag == 1 ? "aabc" : "caba";
                due("the aim", x.foundPlace(0), line == 0 ? "2 " + word + "  round 0" : "2  " + word + " round 0");
            }
        }
    }

    static void promise15_theTenthComesAndThe11thIsFull() {
        for (int line = 0; line < 2; line++) {
            for (int bag = 0; bag < 2; bag++) {
                Lines x = new Lines();
                x.bag(line, bag == 1);
                for (int i = 1; i <= 10; i++) {
                    due("want", x.want(line, (10 - i) % 3), i);
                }
                for (int letter = 0; letter < 3; letter++) {
                    due("the 11th", x.want(line, letter), FULL);
                }
                due("the other line", x.want(1 - line, 2), 1);
                String word = bag == 1 ? "aaaabbbccc" : "acbacbacba";
                due("the aim", x.foundPlace(0), line == 0 ? "0 " + word + " c round 0" : "0 c " + word + " round 0");
                x.aim(0);
                due("the first again", x.want(line, 0), 1);
            }
        }
    }

    static void promise15_badIsALineOrALetterThatThereIsNot() {
        for (int v : outside(0, 1)) {
            due("line " + v, new Lines().want(v, 0), BAD);
        }
        for (int v : outside(0, 2)) {
            due("letter " + v, new Lines().want(0, v), BAD);
            due("letter " + v + ", full", Twins.full().want(0, v), BAD);
        }
    }

    static void promise15_refusedItChangesNothing() {
        Twins.dueRefusedAnywhere("line 2", BAD, x -> x.want(2, 0));
        Twins.dueRefusedAnywhere("line -1", BAD, x -> x.want(-1, 0));
        Twins.dueRefusedAnywhere("letter 3", BAD, x -> x.want(0, 3));
        Twins.dueRefusedAnywhere("letter -1", BAD, x -> x.want(1, -1));
        Twins.dueRefused("the 11th", Twins::full, FULL, x -> x.want(0, 1));
    }

    // ---- promise 16

    /** So many are found: these states in a chain, each with all rows of a up to those wanted. */
    private static Lines chain(int states, int letters) {
        Lines x = new Lines();
        x.states(8);
        for (int state = 1; state < states; state++) {
            x.arc(state, 0, 0, 0, state - 1);
        }
        x.arc(0, 1, 1, 0, 0);
        return x.wantAll(1, "a".repeat(letters));
    }

    static void promise16_howManyAreFound() {
        for (int states = 1; states <= 8; states++) {
            for (int letters = 0; letters <= 10; letters++) {
                int many = states * (letters + 1);
                due("found of " + many, chain(states, letters).found(), many <= 80 ? many : FULL);
            }
        }
    }

    static void promise16_fullIfItIsSpent() {
        due("80", chain(8, 9).found(), 80);
        due("88", chain(8, 10).found(), FULL);
        due("77", chain(7, 10).found(), 77);
        Lines x = Lines.of(2, "1?b00");
        x.wantAll(0, "aaaaaaaaa");
        due("ten letters", x.found(), 2);
        x.want(0, 1);
        due("eleven letters", x.found(), FULL);
        due("eleven letters, asked again", x.found(), FULL);
    }

    static void promise16_itChangesNothing() {
        Twins.dueRefused("found", Lines::new, 1, Lines::found);
        Twins.dueRefused("found", Twins::full, FULL, Lines::found);
        Twins.dueRefused("found", Twins::midway, 5, Lines::found);
    }

    // ---- promise 17

    static void promise17_ofTheKthFound() {
        Lines x = chain(8, 9);
        for (int k = 0; k < 80; k += 79) {
            int[] facts = {k == 0 ? 0 : 7, k == 0 ? 0 : 16, 0, k == 0 ? 9 : 0, k == 0 ? -2 : 6, k == 0 ? -2 : 78, k == 0 ? 0 : 1};
            for (int what = 0; what < 7; what++) {
                due("about(" + k + ", " + what + ")", x.about(k, what), facts[what]);
            }
        }
    }

    static void promise17_badIsSuchAKOrWhat() {
        for (Lines x : List.of(chain(1, 0), chain(2, 0), chain(7, 10), chain(8, 9))) {
            int many = x.found();
            for (int k : outside(0, many - 1)) {
                due("about(" + k + ") of " + many, x.about(k, 0), BAD);
            }
            for (int what : outside(0, 6)) {
                due("what " + what, x.about(0, what), BAD);
                due("what " + what, x.about(many - 1, what), BAD);
            }
            due("the last", x.about(many - 1, 1) >= 0 ? 1 : 0, 1);
        }
    }

    static void promise17_whereItIsSpentFullButForKBelow0AndWhat() {
        for (Lines x : List.of(Twins.full(), chain(8, 10))) {
            for (int k : new int[] {0, 1, 79, 80, 81, HIGHEST}) {
                for (int what = 0; what < 7; what++) {
                    due("about(" + k + ", " + what + ")", x.about(k, what), FULL);
                }
                due("what -1", x.about(k, -1), BAD);
                due("what 7", x.about(k, 7), BAD);
                due("what at the ends of int", x.about(k, LOWEST), BAD);
                due("what at the ends of int", x.about(k, HIGHEST), BAD);
            }
            due("k -1", x.about(-1, 0), BAD);
            due("k at the end of int", x.about(LOWEST, 0), BAD);
        }
    }

    static void promise17_whetherItIsLeast() {
        Lines x = chain(1, 10);
        for (int k = 0; k <= 10; k++) {
            due("about(" + k + ", 6)", x.about(k, 6), k == 10 ? 1 : 0);
        }
        due("the aim alone", new Lines().about(0, 6), 1);
    }

    static void promise17_itChangesNothing() {
        Twins.dueRefusedAnywhere("k -1", BAD, x -> x.about(-1, 0));
        Twins.dueRefusedAnywhere("what 7", BAD, x -> x.about(0, 7));
        Twins.dueRefused("no such k", Twins::midway, BAD, x -> x.about(5, 0));
        Twins.dueRefused("spent", Twins::full, FULL, x -> x.about(0, 0));
    }

    // ---- promise 18

    static void promise18_letterIOnALineOfTheKthFound() {
        for (int line = 0; line < 2; line++) {
            Lines x = Lines.of(2, "1?c" + line + "0");
            x.wantAll(line, "abcabcabc");
            for (int i = 0; i < 10; i++) {
                due("letter(0, " + i + ")", x.letter(0, line, i), i < 9 ? i % 3 : BAD);
                due("letter(1, " + i + ")", x.letter(1, line, i), (i + 2) % 3);
                due("on the other line", x.letter(1, 1 - line, i), BAD);
            }
            for (int i : outside(0, 9)) {
                due("letter " + i, x.letter(1, line, i), BAD);
            }
            for (int k : outside(0, 1)) {
                due("of the " + k + "-th", x.letter(k, line, 0), BAD);
            }
            for (int v : outside(0, 1)) {
                due("on line " + v, x.letter(1, v, 0), BAD);
            }
        }
    }

    static void promise18_ofThe80th() {
        Lines x = chain(8, 9);
        due("letter(77, 1, 0), the last that has one", x.letter(77, 1, 0), 0);
        due("letter(78, 1, 0)", x.letter(78, 1, 0), BAD);
        due("letter(0, 1, 8)", x.letter(0, 1, 8), 0);
        due("letter(0, 1, 9)", x.letter(0, 1, 9), BAD);
        due("letter(79, 1, 0)", x.letter(79, 1, 0), BAD);
        due("letter(80, 1, 0)", x.letter(80, 1, 0), BAD);
        due("at the ends of int", x.letter(HIGHEST, 1, HIGHEST), BAD);
        due("at the ends of int", x.letter(LOWEST, 1, LOWEST), BAD);
    }

    static void promise18_whereItIsSpentFullButForKAndIBelow0AndLine() {
        for (Lines x : List.of(Twins.full(), chain(8, 10))) {
            for (int k : new int[] {0, 1, 79, 80, HIGHEST}) {
                for (int i : new int[] {0, 9, 10, 11, HIGHEST}) {
                    due("letter", x.letter(k, 0, i), FULL);
                    due("letter", x.letter(k, 1, i), FULL);
                    due("line -1", x.letter(k, -1, i), BAD);
                    due("line 2", x.letter(k, 2, i), BAD);
                }
                due("i -1", x.letter(k, 0, -1), BAD);
                due("i at the end of int", x.letter(k, 0, LOWEST), BAD);
            }
            due("k -1", x.letter(-1, 0, 0), BAD);
            due("k at the end of int", x.letter(LOWEST, 0, 0), BAD);
            due("line at the ends of int", x.letter(0, LOWEST, 0), BAD);
            due("line at the ends of int", x.letter(0, HIGHEST, 0), BAD);
        }
    }

    static void promise18_itChangesNothing() {
        Twins.dueRefusedAnywhere("k -1", BAD, x -> x.letter(-1, 0, 0));
        Twins.dueRefusedAnywhere("line 2", BAD, x -> x.letter(0, 2, 0));
        Twins.dueRefusedAnywhere("i -1", BAD, x -> x.letter(0, 0, -1));
        Twins.dueRefused("no such i", Twins::midway, BAD, x -> x.letter(0, 0, 0));
        Twins.dueRefused("spent", Twins::full, FULL, x -> x.letter(0, 0, 0));
    }

    // ---- promise 19

    static void promise19_howManyAreLeast() {
        due("the aim alone", new Lines().least(), 1);
        for (int states = 1; states <= 8; states++) {
            due("one of each state", chain(states, 9).least(), states);
        }
        Lines x = Lines.of(3, "1?a00;1?b00;1?c00;1?a10;1?b10;1?c10");
        due("none is below another", x.least(), 7);
        x.arc(1, 0, 0, 0, 0);
        due("one is below them all", x.least(), 2);
    }

    static void promise19_fullIfItIsSpent() {
        due("80", chain(8, 9).least(), 8);
        due("88", chain(8, 10).least(), FULL);
        Lines x = Lines.of(2, "1?b00");
        x.wantAll(0, "aaaaaaaaa");
        due("ten letters", x.least(), 2);
        x.want(0, 1);
        due("eleven letters", x.least(), FULL);
    }

    static void promise19_itChangesNothing() {
        Twins.dueRefused("least", Twins::full, FULL, Lines::least);
        Twins.dueRefused("least", Twins::midway, 4, Lines::least);
    }

    // ---- promise 20

    static void promise20_farNow() {
        Lines x = Twins.midway();
        due("one arc", x.far(), 1);
        x.go(2);
        due("there", x.far(), 0);
        x.reset();
        due("from the start", x.far(), 3);
        x.go(3);
        due("at the state, without the letter", x.far(), NONE);
        Lines ring = Lines.of(8, "1-0;2-1;3-2;4-3;5-4;6-5;7-6;0!a07");
        ring.wantAll(0, "aaaaaaaaa");
        ring.go(7);
        due("with a letter", ring.far(), 71);
        ring.lose(0, 0);
        due("the farthest", ring.far(), 79);
    }

    static void promise20_fullIfItIsSpent() {
        due("80", chain(8, 9).far(), 9);
        due("88", chain(8, 10).far(), FULL);
        Lines there = chain(8, 10);
        there.goTimes(7, 10);
        due("88, though the aim is below now", there.far(), FULL);
        Lines none = Lines.of(3, "1?b02");
        none.aimAt(2, TEN, "");
        due("spent, though now is no such state", none.far(), FULL);
    }

    static void promise20_noneIfTheAimIsNotComeTo() {
        Lines x = new Lines();
        due("no arcs, there", x.far(), 0);
        x.aim(1);
        due("no arcs", x.far(), NONE);
        x.arc(1, 0, 0, 0, 0);
        due("an arc the other way", x.far(), NONE);
        x.arc(0, 2, 0, 0, 1);
        due("a letter that there is not", x.far(), NONE);
        x.arc(0, 1, 0, 1, 0);
        due("another letter is sent", x.far(), NONE);
        x.arc(0, 1, 0, 0, 0);
        due("it is sent", x.far(), 2);
    }

    static void promise20_itChangesNothing() {
        Twins.dueRefused("far", Twins::full, FULL, Lines::far);
        Twins.dueRefused("far", () -> new Lines().aimAt(3, "a", ""), NONE, Lines::far);
        Twins.dueRefused("far", Twins::midway, 1, Lines::far);
    }

    // ---- promise 21

    static void promise21_arcIOfTheWayNow() {
        Lines x = Twins.midway();
        x.reset();
        due("way(0)", x.way(0), 0);
        due("way(1)", x.way(1), 1);
        due("way(2)", x.way(2), 2);
        for (int i : outside(0, 2)) {
            due("way(" + i + ")", x.way(i), BAD);
        }
        x.goAll(0, 1);
        due("way(0)", x.way(0), 2);
        due("way(1)", x.way(1), BAD);
        x.go(2);
        due("there", x.way(0), BAD);
        due("there, -1", x.way(-1), BAD);
    }

    static void promise21_fullIfItIsSpentButForIBelow0() {
        for (Lines x : List.of(Twins.full(), chain(8, 10))) {
            due("way(0)", x.way(0), FULL);
            due("way(80)", x.way(80), FULL);
            due("way at the end of int", x.way(HIGHEST), FULL);
            due("way(-1)", x.way(-1), BAD);
            due("way at the other end", x.way(LOWEST), BAD);
        }
    }

    static void promise21_noneIfTheAimIsNotComeToButForIBelow0() {
        Lines x = Lines.of(2, "0-0");
        x.aim(1);
        due("way(0)", x.way(0), NONE);
        due("way(1)", x.way(1), NONE);
        due("way at the end of int", x.way(HIGHEST), NONE);
        due("way(-1)", x.way(-1), BAD);
        due("way at the other end", x.way(LOWEST), BAD);
    }

    static void promise21_itChangesNothing() {
        Twins.dueRefusedAnywhere("way(-1)", BAD, x -> x.way(-1));
        Twins.dueRefused("way(0)", Twins::full, FULL, x -> x.way(0));
        Twins.dueRefused("way(1)", Twins::midway, BAD, x -> x.way(1));
        Twins.dueRefused("way(0)", () -> new Lines().aimAt(3, "a", ""), NONE, x -> x.way(0));
    }

    // ---- promise 22

    static void promise22_lIs0To3() {
        for (int l = 0; l <= 3; l++) {
            due("strict(" + l + ")", new Lines().strict(l), 0);
        }
        for (int l : outside(0, 3)) {
            due("strict(" + l + ")", new Lines().strict(l), BAD);
            due("strict(" + l + "), where it would be NOT", Twins.full().strict(l), BAD);
        }
    }

    static void promise22_notIsAWordOfMoreThanLLettersNow() {
        for (int line = 0; line < 2; line++) {
            for (int size = 0; size <= 10; size++) {
                Lines x = Lines.of(1, SENDS);
                x.goTimes(3 * line, size);
                for (int l = 0; l <= 3; l++) {
                    due(size + " letters, of " + l, x.strict(l), size > l ? NOT : 0);
                }
            }
        }
    }

    static void promise22_notIsAWordOfMoreThanLLettersOfTheAim() {
        for (int line = 0; line < 2; line++) {
            for (int size = 0; size <= 10; size++) {
                Lines x = Lines.of(1, SENDS);
                x.wantAll(line, TEN.substring(0, size));
                for (int l = 0; l <= 3; l++) {
                    due(size + " letters, of " + l, x.strict(l), size > l ? NOT : size);
                }
            }
        }
    }

    static void promise22_noneIfThereIsNone() {
        Lines x = Lines.of(2, "0!a00;0?b01");
        x.aim(1);
        for (int l = 0; l <= 3; l++) {
            due("strict(" + l + ")", x.strict(l), NONE);
        }
        x.arc(0, 0, 0, 0, 1);
        for (int l = 0; l <= 3; l++) {
            due("strict(" + l + ")", x.strict(l), 1);
        }
    }

    static void promise22_allPlacesAreGoneThrough() {
        String all = SENDS + ";0?a00;0?b00;0?c00;0?a10;0?b10;0?c10";
        Lines x = Lines.of(8, all + ";0-1;1-2;2-3;3-4;4-5;5-6;6-0");
        x.aim(7);
        for (int l = 0; l <= 3; l++) {
            due("the eighth state, strict(" + l + ")", x.strict(l), NONE);
        }
        x.arc(6, 0, 0, 0, 7);
        x.wantAll(0, "ccc");
        x.wantAll(1, "ccc");
        due("the last place", x.strict(3), 13);
        x.bag(0, true);
        x.bag(1, true);
        x.aimAt(7, "ccc", "ccc");
        due("the last place, of bags", x.strict(3), 13);
        due("of two letters", x.strict(2), NOT);
    }

    static void promise22_itChangesNothing() {
        Twins.dueRefusedAnywhere("strict(4)", BAD, x -> x.strict(4));
        Twins.dueRefusedAnywhere("strict(-1)", BAD, x -> x.strict(-1));
        Twins.dueRefused("strict(3)", Twins::full, NOT, x -> x.strict(3));
        Twins.dueRefused("strict(0)", Twins::midway, NOT, x -> x.strict(0));
        Twins.dueRefused("strict(1)", Twins::midway, 1, x -> x.strict(1));
        Twins.dueRefused("strict(1)", () -> new Lines().aimAt(3, "a", ""), NONE, x -> x.strict(1));
    }

    // ---- promise 23

    static void promise23_nIs0To60() {
        for (int sheet = 0; sheet < 2; sheet++) {
            for (int lane = 0; lane < 2; lane++) {
                Lines x = new Lines();
                for (int n = 0; n <= 60; n++) {
                    due("sheet of " + n, x.sheet(sheet, lane, n), n);
                }
                for (int n : new int[] {61, 62, 256, 65536, 1 << 30, HIGHEST - 1, HIGHEST}) {
                    due("sheet of " + n, x.sheet(sheet, lane, n), BAD);
                }
                for (int n : new int[] {-1, -2, -256, -65536, LOWEST + 1, LOWEST}) {
                    due("sheet of " + n, x.sheet(sheet, lane, n), SIZE);
                }
                due("what it holds yet", x.drop(sheet), 60);
            }
        }
    }

    static void promise23_badIsASheetOrLaneThatThereIsNot() {
        for (int v : outside(0, 1)) {
            for (int n : new int[] {0, 60, 61, -1, LOWEST}) {
                due("sheet " + v, new Lines().sheet(v, 0, n), BAD);
                due("lane " + v, new Lines().sheet(0, v, n), BAD);
            }
        }
    }

    static void promise23_theRowIsNew() {
        for (int lane = 0; lane < 2; lane++) {
            Lines x = new Lines();
            x.sheet(0, 1 - lane, 60);
            for (int i = 0; i < 60; i++) {
                x.item(0, 1 - lane, i, 3);
            }
            due("a new one", x.sheet(0, lane, 60), 60);
            due("its items are all as told", x.arcs(0, lane, 0, 12), 12);
            for (int arc = 0; arc < 12; arc++) {
                Suite.due("items of " + arc, x.arcParts(arc), List.of(0, 0, 0, 0, 0));
            }
            x.putItems(0, lane, 0, 1, 1, 1, 1, 1);
            due("a new one of the same lane", x.sheet(0, lane, 5), 5);
            due("arcs", x.arcs(0, lane, 0, 1), 13);
            Suite.due("its items", x.arcParts(12), List.of(0, 0, 0, 0, 0));
        }
    }

    static void promise23_lineAndLetterOfTheNewRowAre0Too() {
        for (int lane = 0; lane < 2; lane++) {
            Lines x = new Lines();
            x.sheet(0, lane, 60);
            for (int i = 0; i < 60; i++) {
                x.item(0, lane, i, 1);
            }
            x.sheet(0, lane, 60);
            for (int arc = 0; arc < 12; arc++) {
                x.item(0, lane, 5 * arc + 1, 2);
            }
            due("arcs", x.arcs(0, lane, 0, 12), 12);
            for (int arc = 0; arc < 12; arc++) {
                Suite.due("items of " + arc, x.arcParts(arc), List.of(0, 2, 0, 0, 0));
            }
        }
    }

    static void promise23_theOtherSheetStays() {
        Lines x = new Lines();
        x.sheet(0, 0, 5);
        x.putItems(0, 0, 0, 3, 2, 1, 2, 3);
        due("sheet 1", x.sheet(1, 1, 5), 5);
        due("sheet 0", x.arcs(0, 0, 0, 1), 1);
        Suite.due("its items", x.arcParts(0), List.of(3, 2, 1, 2, 3));
    }

    static void promise23_refusedItChangesNothing() {
        Twins.dueRefusedAnywhere("sheet 2", BAD, x -> x.sheet(2, 0, 5));
        Twins.dueRefusedAnywhere("lane 2", BAD, x -> x.sheet(0, 2, 5));
        for (int sheet = 0; sheet < 2; sheet++) {
            int s = sheet;
            Twins.dueRefusedAnywhere("n 61", BAD, x -> x.sheet(s, 1 - s, 61));
            Twins.dueRefusedAnywhere("n -1", SIZE, x -> x.sheet(s, 1 - s, -1));
            Twins.dueRefusedAnywhere("n at the end of int", SIZE, x -> x.sheet(s, s, LOWEST));
        }
    }

    // ---- promise 24

    static void promise24_howManyItemsItHad() {
        for (int sheet = 0; sheet < 2; sheet++) {
            for (int lane = 0; lane < 2; lane++) {
                Lines x = new Lines();
                for (int n = 0; n <= 60; n++) {
                    x.sheet(sheet, lane, n);
                    due("drop of " + n, x.drop(sheet), n);
                    due("drop of nothing", x.drop(sheet), NULL);
                }
            }
        }
    }

    static void promise24_itHoldsNothingThen() {
        Lines x = new Lines();
        x.sheet(0, 0, 60);
        x.sheet(1, 0, 10);
        x.drop(0);
        for (int lane = 0; lane < 2; lane++) {
            due("item", x.item(0, lane, 0, 0), NULL);
            due("arcs", x.arcs(0, lane, 0, 0), NULL);
        }
        due("the other sheet", x.item(1, 0, 9, 0), 1);
        due("the other sheet", x.drop(1), 10);
        due("a new row", x.sheet(0, 1, 5), 5);
        due("is there", x.arcs(0, 1, 0, 1), 1);
    }

    static void promise24_badIsASheetThatThereIsNot() {
        for (int sheet : outside(0, 1)) {
            due("drop(" + sheet + ")", new Lines().drop(sheet), BAD);
            due("drop(" + sheet + ")", Twins.full().drop(sheet), BAD);
        }
    }

    static void promise24_refusedItChangesNothing() {
        Twins.dueRefusedAnywhere("drop(2)", BAD, x -> x.drop(2));
        Twins.dueRefusedAnywhere("drop(-1)", BAD, x -> x.drop(-1));
        Twins.dueRefused("drop(0)", Twins::midway, NULL, x -> x.drop(0));
        Twins.dueRefused("drop(1)", Lines::new, NULL, x -> x.drop(1));
    }

    // ---- promise 25

    static void promise25_badIsASheetOrLaneThatThereIsNot() {
        for (int v : outside(0, 1)) {
            due("sheet " + v, withSheet(0, 5).item(v, 0, 0, 0), BAD);
            due("lane " + v, withSheet(0, 5).item(1, v, 0, 0), BAD);
            due("lane " + v + ", nothing", withSheet(0, 5).item(0, v, 0, 0), BAD);
            due("lane " + v + ", index", withSheet(0, 5).item(1, v, 5, 0), BAD);
        }
    }

    static void promise25_nullCastAndIndex() {
        for (int lane = 0; lane < 2; lane++) {
            Lines x = withSheet(lane, 5);
            for (int i : outside(0, 4)) {
                due("nothing, item " + i, x.item(0, lane, i, 0), NULL);
                due("the other lane, item " + i, x.item(1, 1 - lane, i, 0), CAST);
                due("item " + i, x.item(1, lane, i, 0), INDEX);
            }
            due("the first", x.item(1, lane, 0, 0), 1);
            due("the last", x.item(1, lane, 4, 0), 1);
        }
    }

    static void promise25_indexOfEachSize() {
        for (int size = 0; size <= 60; size++) {
            Lines x = withSheet(1, size);
            due("the last of " + size, x.item(1, 1, size - 1, 7), size == 0 ? INDEX : 1);
            due("behind it", x.item(1, 1, size, 7), INDEX);
        }
    }

    static void promise25_aByteBecomesTheEightLowestBits() {
        for (int b = 0; b < 256; b++) {
            for (int above : new int[] {0, 256, 65536, 1 << 30, LOWEST, -256, HIGHEST - 255}) {
                Lines x = withSheet(0, 5);
                x.states(8);
                due("item", x.item(1, 0, 4, above + b), 1);
                due("as a state, " + (above + b), x.arcs(1, 0, 0, 1), b < 8 ? 1 : NOT);
                due("which it is", x.told(0, 4), b < 8 ? b : BAD);
            }
        }
    }

    static void promise25_anIntBecomesAllBits() {
        for (int above : new int[] {256, 65536, 1 << 30, LOWEST, -256, HIGHEST - 255}) {
            for (int b = 0; b < 8; b++) {
                Lines x = withSheet(1, 5);
                x.states(8);
                due("item", x.item(1, 1, 4, above + b), 1);
                due("as a state, " + (above + b), x.arcs(1, 1, 0, 1), NOT);
                due("item", x.item(1, 1, 4, b), 1);
                due("as a state, " + b, x.arcs(1, 1, 0, 1), 1);
                due("which it is", x.told(0, 4), b);
            }
        }
    }

    static void promise25_thatItemAlone() {
        for (int lane = 0; lane < 2; lane++) {
            for (int i = 0; i < 5; i++) {
                Lines x = withSheet(lane, 15);
                x.sheet(0, lane, 15);
                for (int arc = 0; arc < 3; arc++) {
                    x.putItems(1, lane, 5 * arc, 1, 1, 1, 1, 1);
                    x.putItems(0, lane, 5 * arc, 1, 1, 1, 1, 1);
                }
                x.item(1, lane, 5 + i, i == 1 ? 2 : 0);
                due("arcs", x.arcs(1, lane, 0, 3), 3);
                due("arcs of the other", x.arcs(0, lane, 0, 3), 6);
                for (int k = 0; k < 30; k++) {
                    due("part " + k, x.told(k / 5, k % 5), k != 5 + i ? 1 : i == 1 ? 2 : 0);
                }
            }
        }
    }

    static void promise25_arcsThatCameStay() {
        Lines x = withSheet(0, 5);
        x.putItems(1, 0, 0, 1, 1, 1, 1, 1);
        x.arcs(1, 0, 0, 1);
        x.putItems(1, 0, 0, 2, 2, 0, 2, 2);
        Suite.due("the arc", x.arcParts(0), List.of(1, 1, 1, 1, 1));
    }

    static void promise25_refusedItChangesNothing() {
        Twins.dueRefusedAnywhere("sheet 2", BAD, x -> x.item(2, 0, 0, 1));
        Twins.dueRefusedAnywhere("lane 2", BAD, x -> x.item(0, 2, 0, 1));
        Twins.dueRefused("nothing", Twins::midway, NULL, x -> x.item(0, 0, 0, 1));
        Twins.dueRefused("no items", Twins::midway, INDEX, x -> x.item(1, 0, 0, 1));
        Twins.dueRefused("ints as bytes", Twins::full, CAST, x -> x.item(1, 0, 0, 3));
        Twins.dueRefused("bytes as ints", Twins::full, CAST, x -> x.item(0, 1, 0, 1));
        Twins.dueRefused("item 5 of five", Twins::full, INDEX, x -> x.item(0, 0, 5, 1));
        Twins.dueRefused("item -1", Twins::full, INDEX, x -> x.item(0, 0, -1, 1));
        Twins.dueRefused("item 10 of ten", Twins::full, INDEX, x -> x.item(1, 1, 10, 1));
    }
}
