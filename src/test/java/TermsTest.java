import java.util.ArrayList;
import java.util.Arrays;
import java.util.List;
import java.util.function.Consumer;
import java.util.function.ToIntFunction;

/** Each sentence of "What it is" and of "Terms" that names an edge: what is still so, and what is so no more. */
public final class TermsTest {
    private static final int BAD = Lines.BAD, NOT = Lines.NOT, FULL = Lines.FULL, NONE = Lines.NONE;
    private static final int NULL = Lines.NULL, CAST = Lines.CAST, INDEX = Lines.INDEX;

    /** Neither a line nor an act, a sheet or a lane. */
    private static final int[] NO_LINES = {-1, 2, -2, 256, 1 << 16, Integer.MIN_VALUE, Integer.MIN_VALUE + 1, Integer.MAX_VALUE};
    private static final int[] NO_LETTERS = {-1, 3, -2, 256, 1 << 16, Integer.MIN_VALUE, Integer.MIN_VALUE + 1, Integer.MAX_VALUE};

    private static final String SENDS = "0!a00;0!b00;0!c00;0!a10;0!b10;0!c10";
    private static final String TEN = "abcabcabca";

    /** Eight states in a ring and a letter sent once a round: each round finds one place alone. */
    private static final String RING = "1-0;2-1;3-2;4-3;5-4;6-5;7-6;0!a07";

    public static void main(String[] args) throws ReflectiveOperationException {
        Suite.run(TermsTest.class, List.of("whatItIs", "terms0", "terms1", "terms2", "terms3"));
    }

    private static void due(String what, int got, int want) {
        Suite.due(what, got, want);
    }

    private static void due(String what, String got, String want) {
        Suite.due(what + " (" + got + " for " + want + ")", got.equals(want) ? 1 : 0, 1);
    }

    private record Call(String name, int due, ToIntFunction<Lines> made) {
    }

    /** All words of so many letters at most. */
    private static List<String> words(int most) {
        List<String> words = new ArrayList<>(List.of(""));
        for (int i = 0; i < words.size(); i++) {
            if (words.get(i).length() < most) {
                for (char c : "abc".toCharArray()) {
                    words.add(words.get(i) + c);
                }
            }
        }
        return words;
    }

    private static String ordered(String word) {
        char[] letters = word.toCharArray();
        Arrays.sort(letters);
        return new String(letters);
    }

    /** Now of a machine of SENDS has these letters on a line. */
    private static void send(Lines x, int line, String letters) {
        for (char c : letters.toCharArray()) {
            x.go(3 * line + c - 'a');
        }
    }

    // ---- what it is

    static void whatItIs_the512thCallIsAnsweredAsAnyOther() {
        List<Call> lasts = List.of(
            new Call("states", 3, x -> x.states(8)),
            new Call("bag", 1, x -> x.bag(1, false)),
            new Call("arc", 2, x -> x.arc(0, 0, 0, 0, 2)),
            new Call("unarc", 1, Lines::unarc),
            new Call("told", 2, x -> x.told(1, 1)),
            new Call("type", 3, x -> x.type('2', 1)),
            new Call("read", -22, Lines::read),
            new Call("arcs", 4, x -> x.arcs(0, 0, 0, 2)),
            new Call("go", 1, x -> x.go(0)),
            new Call("lose", BAD, x -> x.lose(0, 0)),
            new Call("now", 0, x -> x.now(0, -1)),
            new Call("reset", 1, Lines::reset),
            new Call("aim", 1, x -> x.aim(1)),
            new Call("want", 2, x -> x.want(1, 1)),
            new Call("found", 3, Lines::found),
            new Call("about", 1, x -> x.about(1, 2)),
            new Call("letter", 2, x -> x.letter(1, 0, 0)),
            new Call("least", 3, Lines::least),
            new Call("far", NONE, Lines::far),
            new Call("way", NONE, x -> x.way(0)),
            new Call("strict", NONE, x -> x.strict(3)),
            new Call("sheet", 60, x -> x.sheet(1, 0, 60)),
            new Call("drop", 10, x -> x.drop(0)),
            new Call("item", 1, x -> x.item(0, 0, 9, 1)));
        for (Call last : lasts) {
            Lines x = usedFor511Calls();
            due("the 512th call, " + last.name, last.made.applyAsInt(x), last.due);
            due("calls", x.calls(), 512);
        }
    }

    /** Round and round through calls that change much and leave nothing; then resets, to come to that number. */
    private static Lines usedFor511Calls() {
        Lines x = new Lines();
        while (x.calls() < 470) {
            x.states(8);
            x.bag(1, true);
            x.readText("0!c01;1?c02");
            x.aimAt(2, "", "");
            x.goAll(0, 1);
            x.unarc();
            x.far();
            x.strict(3);
            x.sheet(0, 1, 60);
            x.drop(0);
            x.states(3);
            x.typeText("    ");
            x.read();
            x.sheet(0, 0, 10);
        }
        x.readText("0!c01;1?c02");
        x.aimAt(2, "", "b");
        x.typeText("0-");
        while (x.calls() < 511) {
            x.reset();
        }
        return x;
    }

    // ---- terms, the first paragraph

    static void terms0_theAnswersBelow0HaveTheirNumbers() {
        due("BAD", ForgettingLines.BAD, -1);
        due("NOT", ForgettingLines.NOT, -2);
        due("FULL", ForgettingLines.FULL, -3);
        due("NONE", ForgettingLines.NONE, -4);
        due("NULL", ForgettingLines.NULL, -11);
        due("CAST", ForgettingLines.CAST, -12);
        due("INDEX", ForgettingLines.INDEX, -13);
        due("SIZE", ForgettingLines.SIZE, -14);
    }

    static void terms0_ofSeveralAnswersTheFirstThatACallNames() {
        Lines x = Twins.full();
        due("arc: bad, full", x.arc(5, 0, 0, 0, 0), BAD);
        due("type: bad n, full", x.type(Lines.packed("00000000"), 9), BAD);
        due("type: bad byte, full", x.type(127, 1), BAD);
        due("go: bad", x.go(20), BAD);
        due("go: not of that state, full", x.go(2), NOT);
        due("want: bad letter, full", x.want(0, 3), BAD);
        due("want: bad line, full", x.want(2, 0), BAD);
        due("about: bad k, spent", x.about(-1, 0), BAD);
        due("about: bad what, spent", x.about(0, 7), BAD);
        due("about: spent, no such k", x.about(Integer.MAX_VALUE, 0), FULL);
        due("letter: bad k, spent", x.letter(-1, 0, 0), BAD);
        due("letter: bad line, spent", x.letter(0, 2, 0), BAD);
        due("letter: bad i, spent", x.letter(0, 0, -1), BAD);
        due("letter: spent, none such", x.letter(Integer.MAX_VALUE, 0, Integer.MAX_VALUE), FULL);
        due("way: bad, spent", x.way(-1), BAD);
        due("way: spent, none such", x.way(Integer.MAX_VALUE), FULL);
        due("strict: bad, not", x.strict(4), BAD);
        due("sheet: bad sheet, size", x.sheet(2, 0, -1), BAD);
        due("sheet: bad lane, size", x.sheet(0, 2, -1), BAD);
    }

    static void terms0_ofSeveralAnswersTheFirstThatACallNamesAtAnAimThatIsNotComeTo() {
        Lines x = Lines.of(2, "0-0");
        x.aim(1);
        due("way: bad, none", x.way(-1), BAD);
        due("way: none, none such", x.way(0), NONE);
        x.want(0, 0);
        due("strict: not, none", x.strict(0), NOT);
        due("strict: none", x.strict(1), NONE);
        Lines spent = Lines.of(3, "2?a01");
        spent.aimAt(1, TEN, "");
        due("far: spent, none", spent.far(), FULL);
        due("way: spent, none", spent.way(0), FULL);
    }

    static void terms0_ofSeveralAnswersOfASheetTheFirstThatACallNames() {
        Lines x = Twins.full();
        due("item: bad lane, null", new Lines().item(0, 2, 0, 0), BAD);
        due("item: null, index", new Lines().item(0, 1, -1, 0), NULL);
        due("item: bad lane, index", x.item(0, 2, -1, 0), BAD);
        due("item: cast, index", x.item(0, 1, -1, 0), CAST);
        due("arcs: bad n, null", new Lines().arcs(0, 0, 0, 13), BAD);
        due("arcs: bad lane, index", x.arcs(0, 2, -1, 1), BAD);
        due("arcs: bad n, cast", x.arcs(0, 1, 0, -1), BAD);
        due("arcs: bad n, index", x.arcs(0, 0, -1, 13), BAD);
        due("arcs: null, index", new Lines().arcs(0, 0, -1, 1), NULL);
        due("arcs: cast, index", x.arcs(0, 1, -1, 1), CAST);
        due("arcs: cast, not, full", x.arcs(1, 0, 5, 1), CAST);
        due("arcs: index, full", x.arcs(1, 1, 6, 1), INDEX);
        due("arcs: index, the first one is not as told", x.arcs(1, 1, 5, 2), INDEX);
        due("arcs: not, full", x.arcs(1, 1, 0, 2), NOT);
        due("arcs: full", x.arcs(1, 1, 0, 1), FULL);
    }

    static void terms0_whatAnswersBelow0ChangesNothing() {
        Twins.dueRefusedAnywhere("states(9)", BAD, x -> x.states(9));
        Twins.dueRefusedAnywhere("bag(2)", BAD, x -> x.bag(2, true));
        Twins.dueRefusedAnywhere("arc to 8", BAD, x -> x.arc(0, 0, 0, 0, 8));
        Twins.dueRefusedAnywhere("type of byte 31", BAD, x -> x.type(31, 1));
        Twins.dueRefusedAnywhere("arcs of 13", BAD, x -> x.arcs(0, 0, 0, 13));
        Twins.dueRefusedAnywhere("go(20)", BAD, x -> x.go(20));
        Twins.dueRefusedAnywhere("lose(0, 10)", BAD, x -> x.lose(0, 10));
        Twins.dueRefusedAnywhere("aim(8)", BAD, x -> x.aim(8));
        Twins.dueRefusedAnywhere("want(2, 0)", BAD, x -> x.want(2, 0));
        Twins.dueRefusedAnywhere("sheet of 61", BAD, x -> x.sheet(0, 0, 61));
        Twins.dueRefusedAnywhere("sheet of -1", Lines.SIZE, x -> x.sheet(0, 0, -1));
        Twins.dueRefusedAnywhere("drop(2)", BAD, x -> x.drop(2));
        Twins.dueRefusedAnywhere("item of sheet 2", BAD, x -> x.item(2, 0, 0, 1));
    }

    static void terms0_whatAnswersBelow0ChangesNothingButAsTold() {
        Lines x = Twins.midway();
        x.typeText("x");
        due("read", x.read(), -23);
        Lines twin = Twins.midway();
        twin.type(' ', 1);
        x.typeText("0-1 ");
        Suite.due("the tape alone is another", x.everything(), twin.everything());
    }

    // ---- terms, part 1

    static void terms1_statesAre0ToNLessOneAndN1To8() {
        for (int n = 1; n <= 8; n++) {
            Lines x = new Lines();
            due("states(" + n + ")", x.states(n), 4);
            due("from the last", x.arc(n - 1, 0, 0, 0, 0), 0);
            due("to the last", x.arc(0, 0, 0, 0, n - 1), 1);
            due("from N", x.arc(n, 0, 0, 0, 0), BAD);
            due("to N", x.arc(0, 0, 0, 0, n), BAD);
            due("from -1", x.arc(-1, 0, 0, 0, 0), BAD);
            due("to -1", x.arc(0, 0, 0, 0, -1), BAD);
            due("aim at the last", x.aim(n - 1), 1);
            due("aim at N", x.aim(n), BAD);
            due("go to the last", x.go(1), n - 1);
            due("read of the last", x.readText((n - 1) + "-" + (n - 1)), 1);
            due("read of N", x.readText("0-" + n), -22);
        }
        due("states(0)", new Lines().states(0), BAD);
        due("states(9)", new Lines().states(9), BAD);
    }

    static void terms1_thereAreFourStatesAtFirst() {
        Lines x = new Lines();
        due("aim(3)", x.aim(3), 1);
        due("aim(4)", x.aim(4), BAD);
        due("states", x.states(1), 4);
    }

    static void terms1_linesAre0And1() {
        for (int line = 0; line < 2; line++) {
            Lines x = new Lines();
            due("bag", x.bag(line, false), 0);
            due("send", x.arc(0, 1, line, 1, 0), 0);
            due("take", x.arc(0, 2, line, 1, 0), 1);
            due("go", x.go(0), 0);
            due("how many", x.now(line, -1), 1);
            due("how many on the other", x.now(1 - line, -1), 0);
            due("which", x.now(line, 0), 1);
            due("lose", x.lose(line, 0), 1);
            due("want", x.want(line, 1), 1);
            due("letter", x.letter(0, line, 0), 1);
            due("letter on the other", x.letter(0, 1 - line, 0), BAD);
        }
        for (int line : NO_LINES) {
            Lines x = Lines.of(1, SENDS);
            x.aimAt(0, "a", "a");
            x.goAll(0, 3);
            due("bag(" + line + ")", x.bag(line, true), BAD);
            due("send on " + line, x.arc(0, 1, line, 0, 0), BAD);
            due("take off " + line, x.arc(0, 2, line, 0, 0), BAD);
            due("how many on " + line, x.now(line, -1), BAD);
            due("which on " + line, x.now(line, 0), BAD);
            due("lose on " + line, x.lose(line, 0), BAD);
            due("want on " + line, x.want(line, 0), BAD);
            due("letter on " + line, x.letter(0, line, 0), BAD);
        }
    }

    static void terms1_eachLineIsARowAtFirst() {
        for (int line = 0; line < 2; line++) {
            Lines x = new Lines();
            x.readText(SENDS);
            send(x, line, "cba");
            due("line " + line, x.word(line), "cba");
            due("bag(" + line + ")", x.bag(line, true), 0);
        }
    }

    static void terms1_lettersAre0To2() {
        for (int letter = 0; letter < 3; letter++) {
            Lines x = new Lines();
            due("send", x.arc(0, 1, 1, letter, 0), 0);
            due("take", x.arc(0, 2, 1, letter, 0), 1);
            due("want", x.want(1, letter), 1);
            due("wanted", x.letter(0, 1, 0), letter);
            x.go(0);
            due("sent", x.now(1, 0), letter);
            due("taken", x.go(1), 0);
        }
        for (int letter : NO_LETTERS) {
            Lines x = new Lines();
            due("send " + letter, x.arc(0, 1, 0, letter, 0), BAD);
            due("take " + letter, x.arc(0, 2, 0, letter, 0), BAD);
            due("want " + letter, x.want(0, letter), BAD);
        }
    }

    static void terms1_arcsAre0To19AsTheyCome() {
        Lines x = new Lines();
        for (int arc = 0; arc < 20; arc++) {
            due("before it comes, told", x.told(arc, 0), BAD);
            due("before it comes, go", x.go(arc), BAD);
            due("arc", x.arc(arc % 4, 0, 0, 0, arc / 5), arc);
        }
        due("a 21st", x.arc(0, 0, 0, 0, 0), FULL);
        for (int arc = 0; arc < 20; arc++) {
            due("from of " + arc, x.told(arc, 0), arc % 4);
            due("to of " + arc, x.told(arc, 4), arc / 5);
        }
        due("told(20)", x.told(20, 0), BAD);
        due("go(20)", x.go(20), BAD);
        due("go(16)", x.go(16), 3);
        due("go(19)", x.go(19), 3);
        due("unarc", x.unarc(), 19);
        due("the 20th again", x.arc(1, 0, 0, 0, 1), 19);
    }

    static void terms1_actsAre0To2() {
        Lines x = new Lines();
        for (int act = 0; act < 3; act++) {
            due("act " + act, x.arc(0, act, 0, 0, 0), act);
            due("told", x.told(act, 1), act);
        }
        for (int act : NO_LETTERS) {
            due("act " + act, x.arc(0, act, 0, 0, 0), BAD);
        }
    }

    static void terms1_aWordHasTheFirstOneInFrontAndSendIsBehind() {
        for (String word : words(3)) {
            for (int line = 0; line < 2; line++) {
                Lines x = Lines.of(1, SENDS);
                send(x, line, word);
                x.aim(0);
                x.wantAll(line, word);
                due("sent on " + line, x.word(line), word);
                due("on the other", x.word(1 - line), "");
                due("wanted on " + line, x.foundPlace(0), line == 0 ? "0 " + word + "  round 0" : "0  " + word + " round 0");
            }
        }
    }

    static void terms1_aBagIsInOrderOfLetters() {
        List<String> words = words(3);
        words.add("cbacbacbac");
        for (String word : words) {
            for (int line = 0; line < 2; line++) {
                Lines x = Lines.of(1, SENDS);
                x.bag(line, true);
                send(x, line, word);
                x.wantAll(line, word);
                String due = ordered(word);
                due("sent into " + line, x.word(line), due);
                due("wanted in " + line, x.foundPlace(0), line == 0 ? "0 " + due + "  round 0" : "0  " + due + " round 0");
            }
        }
    }

    static void terms1_aPlaceHasTenLettersOnEachLineAtMost() {
        for (int bags = 0; bags < 4; bags++) {
            Lines x = Lines.of(1, SENDS);
            x.bag(0, (bags & 1) != 0);
            x.bag(1, (bags & 2) != 0);
            for (int line = 0; line < 2; line++) {
                for (int i = 0; i < 10; i++) {
                    due("go", x.go(3 * line + i % 3), 0);
                    due("want", x.want(line, i % 3), i + 1);
                }
                for (int letter = 0; letter < 3; letter++) {
                    due("an 11th sent on " + line, x.go(3 * line + letter), FULL);
                    due("an 11th wanted on " + line, x.want(line, letter), FULL);
                }
            }
            due("now", x.place(), "0 " + ((bags & 1) != 0 ? ordered(TEN) : TEN) + " " + ((bags & 2) != 0 ? ordered(TEN) : TEN));
        }
    }

    static void terms1_anArcCanBeDoneAtAPlaceOfItsState() {
        Lines x = Lines.of(3, "1-2;1!a02;1?a02;0-1");
        for (int arc = 0; arc < 3; arc++) {
            due("at another state", x.go(arc), NOT);
        }
        due("at its state", x.go(3), 1);
        due("at another state now", x.go(3), NOT);
        due("at its state", x.go(1), 2);
    }

    static void terms1_noneCanAlwaysBeDone() {
        Lines x = Lines.of(1, SENDS + ";0-0");
        due("with empty words", x.go(6), 0);
        send(x, 0, TEN);
        send(x, 1, TEN);
        due("with full words", x.go(6), 0);
        due("nothing is another", x.place(), "0 " + TEN + " " + TEN);
    }

    static void terms1_sendCanBeDoneUpToTheTenthLetter() {
        for (int line = 0; line < 2; line++) {
            Lines x = Lines.of(1, SENDS);
            send(x, line, "abcabcabc");
            due("the tenth", x.go(3 * line), 0);
            due("the 11th", x.go(3 * line), FULL);
            due("the other line's first", x.go(3 - 3 * line), 0);
            due("lose", x.lose(line, 3), 0);
            due("the tenth again", x.go(3 * line + 2), 0);
            due("word", x.word(line), "abcbcabcac");
        }
    }

    static void terms1_takeOffARowIfTheLetterIsInFront() {
        for (String word : words(3)) {
            for (int letter = 0; letter < 3; letter++) {
                Lines x = Lines.of(2, SENDS + ";0?a01;0?b01;0?c01");
                send(x, 0, word);
                boolean can = !word.isEmpty() && word.charAt(0) == 'a' + letter;
                due("take " + letter + " off " + word, x.go(6 + letter), can ? 1 : NOT);
                due("what is left", x.place(), can ? "1 " + word.substring(1) + " " : "0 " + word + " ");
            }
        }
    }

    static void terms1_takeOutOfABagIfTheLetterIsInIt() {
        for (String word : words(3)) {
            for (int letter = 0; letter < 3; letter++) {
                Lines x = Lines.of(2, SENDS + ";0?a11;0?b11;0?c11");
                x.bag(1, true);
                send(x, 1, word);
                String sign = "abc".substring(letter, letter + 1);
                boolean can = word.contains(sign);
                due("take " + sign + " out of " + word, x.go(6 + letter), can ? 1 : NOT);
                due("what is left", x.place(), can ? "1  " + ordered(word.replaceFirst(sign, "")) : "0  " + ordered(word));
            }
        }
    }

    static void terms1_lostCanBeAnyLetterOfAnyWord() {
        for (int line = 0; line < 2; line++) {
            for (int i = 0; i < 10; i++) {
                Lines x = Lines.of(1, SENDS);
                send(x, 0, TEN);
                send(x, 1, TEN);
                due("lose", x.lose(line, i), i % 3);
                due("what is left", x.word(line), TEN.substring(0, i) + TEN.substring(i + 1));
                due("the other line", x.word(1 - line), TEN);
                due("a tenth is no more", x.lose(line, 9), BAD);
            }
        }
    }

    static void terms1_theEmptyWord() {
        Lines x = Lines.of(2, "0?a01;0!a00");
        due("has no letters", x.now(0, -1), 0);
        due("has no first letter", x.now(0, 0), BAD);
        due("none can be lost", x.lose(0, 0), BAD);
        due("none can be taken", x.go(0), NOT);
        due("it is in itself", x.far(), 0);
        x.go(1);
        due("it is in another", x.far(), 0);
        x.want(0, 0);
        x.reset();
        due("another is not in it", x.far(), 1);
    }

    /** Letters left out: by the words of the document, not by the way that the class goes. */
    private static boolean isIn(String word, String other) {
        if (word.equals(other)) {
            return true;
        }
        for (int i = 0; i < other.length(); i++) {
            if (word.length() < other.length() && isIn(word, other.substring(0, i) + other.substring(i + 1))) {
                return true;
            }
        }
        return false;
    }

    private static void dueIn(String word, String other, boolean bag, int line) {
        Lines x = Lines.of(1, SENDS);
        x.bag(line, bag);
        send(x, line, other);
        x.wantAll(line, word);
        boolean is = bag ? isIn(ordered(word), ordered(other)) : isIn(word, other);
        due(word + " in " + other + (bag ? " as bags on " : " on ") + line, x.far() == 0 ? 1 : 0, is ? 1 : 0);
    }

    static void terms1_aWordIsInAnotherWithNoneOrSomeLettersLeftOut() {
        for (String word : words(3)) {
            for (String other : words(3)) {
                dueIn(word, other, false, 0);
                dueIn(word, other, false, 1);
                dueIn(word, other, true, 1);
            }
        }
    }

    static void terms1_aLongWordIsInAnother() {
        dueIn(TEN, TEN, false, 0);
        dueIn(TEN, TEN, true, 0);
        dueIn("", TEN, false, 1);
        for (int i = 0; i < 10; i++) {
            String less = TEN.substring(0, i) + TEN.substring(i + 1);
            String other = TEN.substring(0, i) + (TEN.charAt(i) == 'c' ? 'a' : 'c') + TEN.substring(i + 1);
            for (int line = 0; line < 2; line++) {
                dueIn(less, TEN, false, line);
                dueIn(TEN, less, false, line);
                dueIn(other, TEN, false, line);
                dueIn(other, TEN, true, line);
                dueIn(less, other, false, line);
            }
        }
    }

    static void terms1_aPlaceIsBelowOneOfTheSameStateIfBothWordsAreIn() {
        for (int state = 0; state < 2; state++) {
            for (String word0 : List.of("", "a", "b", "ab", "ba")) {
                for (String word1 : List.of("", "a", "c", "ac", "ca")) {
                    Lines x = Lines.of(2, SENDS);
                    send(x, 0, "ab");
                    send(x, 1, "ac");
                    x.aimAt(state, word0, word1);
                    boolean below = state == 0 && isIn(word0, "ab") && isIn(word1, "ac");
                    due(state + " " + word0 + " " + word1, x.far() == 0 ? 1 : 0, below ? 1 : 0);
                }
            }
        }
    }

    // ---- terms, part 2

    static void terms2_theAimIsState0WithoutLettersAtFirst() {
        Lines x = new Lines();
        due("the aim", x.foundPlace(0), "0   round 0");
        due("far", x.far(), 0);
        due("want", x.want(0, 0), 1);
        due("want", x.want(1, 0), 1);
    }

    static void terms2_aPlaceThatTheAimIsBelowNeedHaveNothingDone() {
        Lines x = new Lines();
        due("no arcs", x.far(), 0);
        due("no way", x.way(0), BAD);
        Lines more = Lines.of(1, SENDS);
        send(more, 0, TEN);
        send(more, 1, TEN);
        more.aimAt(0, "", "cba");
        due("with letters more", more.far(), 0);
        due("with letters more, no way", more.way(0), BAD);
        due("but without losing", more.strict(3), NOT);
        more.aim(0);
        due("far", more.far(), 0);
    }

    static void terms2_itIsComeToByArcsAndLettersLostInAnyOrder() {
        Lines x = Lines.of(3, "0!b00;0!a00;0?a01;1?a02");
        x.aim(2);
        x.goAll(0, 1, 0, 1);
        due("baba: lost before, and between", x.far(), 2);
        due("way", x.way(0), 2);
        due("way", x.way(1), 3);
        due("without losing", x.strict(3), NOT);
        x.lose(0, 3);
        due("bab, then an a and one more", x.far(), 3);
        due("without losing", x.strict(3), NONE);
        x.lose(0, 1);
        due("bb", x.far(), 4);
    }

    static void terms2_round0IsTheAim() {
        Lines x = Lines.of(4, "3-3");
        x.aimAt(3, "cab", TEN);
        due("found", x.found(), 1);
        due("the aim", x.foundPlace(0), "3 cab " + TEN + " round 0");
        due("its arc", x.about(0, 4), -2);
        due("what it is ahead of", x.about(0, 5), -2);
    }

    static void terms2_aRoundGoesByThoseFoundInOrderAndByArcsInOrder() {
        Lines x = Lines.of(6, "4-2;5-1;3-1;1-0;2-0;2-1");
        due("found", x.found(), 6);
        String[] places = {"0", "1", "2", "5", "3", "4"};
        int[] rounds = {0, 1, 1, 2, 2, 2};
        int[] arcs = {-2, 3, 4, 1, 2, 0};
        int[] aheadOf = {-2, 0, 0, 1, 1, 2};
        for (int k = 0; k < 6; k++) {
            due("place " + k, x.foundPlace(k), places[k] + "   round " + rounds[k]);
            due("arc of " + k, x.about(k, 4), arcs[k]);
            due("ahead of, of " + k, x.about(k, 5), aheadOf[k]);
        }
    }

    private static void dueAhead(String arc, boolean bag, String word, String due) {
        for (int line = 0; line < 2; line++) {
            Lines x = Lines.of(2, "1" + arc + (arc.equals("-") ? "" : line) + "0");
            x.bag(line, bag);
            x.aim(0);
            x.wantAll(line, word);
            x.wantAll(1 - line, "ba");
            due("found", x.found(), 2);
            due(arc + " ahead of " + word, x.foundPlace(1), line == 0 ? "1 " + due + " ba round 1" : "1 ba " + due + " round 1");
        }
    }

    static void terms2_aheadOfNoneAreTheSameWords() {
        for (String word : words(2)) {
            dueAhead("-", false, word, word);
            dueAhead("-", true, word, ordered(word));
        }
        dueAhead("-", false, TEN, TEN);
    }

    static void terms2_aheadOfSendTheLetterIsGoneIfItIsTheLast() {
        for (String word : words(3)) {
            for (String sign : List.of("a", "b", "c")) {
                dueAhead("!" + sign, false, word, word.endsWith(sign) ? word.substring(0, word.length() - 1) : word);
            }
        }
        dueAhead("!a", false, TEN, TEN.substring(0, 9));
        dueAhead("!c", false, TEN, TEN);
    }

    static void terms2_aheadOfSendTheLetterIsGoneIfItIsInTheBag() {
        for (String word : words(3)) {
            for (String sign : List.of("a", "b", "c")) {
                dueAhead("!" + sign, true, word, ordered(word).replaceFirst(sign, ""));
            }
        }
        dueAhead("!b", true, TEN, "aaaabbccc");
    }

    static void terms2_aheadOfTakeTheLetterIsInFrontOrInTheBag() {
        for (String word : words(3)) {
            for (String sign : List.of("a", "b", "c")) {
                dueAhead("?" + sign, false, word, sign + word);
                dueAhead("?" + sign, true, word, ordered(sign + word));
            }
        }
        dueAhead("?c", false, "abcabcabc", "cabcabcabc");
        dueAhead("?b", true, "abcabcabc", "aaabbbbccc");
    }

    static void terms2_aPlaceIsFoundIfNoneFoundBeforeIsBelowIt() {
        due("the same place", Lines.of(2, "1-0;1-0").found(), 2);
        due("the aim again", Lines.of(2, "1-0;0-1").found(), 2);
        due("one that one of that round is below", Lines.of(2, "1-0;1?a00").found(), 2);
        due("one that is below one of that round", Lines.of(2, "1?a00;1-0").found(), 3);
        due("one of another order", found("1?a00;1?b00", "ab", ""), 3);
        due("one that the aim is below", Lines.of(1, "0?a00").found(), 1);
        due("one that is below the aim", found("0!a00", "a", ""), 2);
        due("one with the other line's letters", Lines.of(2, "1?a00;1?a10").found(), 3);
        due("one of another state", Lines.of(3, "1?a00;2?a00").found(), 3);
        Lines x = Lines.of(3, "1?a00;1?a10;2-1");
        due("each of them goes on", x.found(), 5);
        due("one of an earlier round", Lines.of(3, "1-0;2-1;1-2").found(), 3);
    }

    private static int found(String text, String word0, String word1) {
        Lines x = Lines.of(8, text);
        x.aimAt(0, word0, word1);
        return x.found();
    }

    static void terms2_itEndsWithARoundInWhichNoneIsFound() {
        due("at once", Lines.of(2, "0-1").found(), 1);
        Lines x = Lines.of(8, RING);
        due("behind seven rounds", x.found(), 8);
        due("the last", x.foundPlace(7), "7   round 7");
        x.wantAll(0, "aaaaaaaaa");
        due("behind 79 rounds", x.found(), 80);
        due("the last of them", x.foundPlace(79), "7   round 79");
        due("there is no 81st", x.about(80, 0), BAD);
    }

    static void terms2_itIsSpentByAnEleventhLetterOnALine() {
        for (int line = 0; line < 2; line++) {
            for (int bag = 0; bag < 2; bag++) {
                Lines x = Lines.of(2, "1?c" + line + "0");
                x.bag(line, bag == 1);
                x.wantAll(line, "aabbaabba");
                due("ten letters", x.found(), 2);
                due("which are there", x.about(1, 2 + line), 10);
                x.want(line, 0);
                due("eleven letters", x.found(), FULL);
            }
        }
        Lines late = Lines.of(8, "1?a00;2?b01;3?c02;4?a03;5?b04;6?c05;7?a06");
        late.wantAll(0, "bcb");
        late.wantAll(1, TEN);
        due("ten letters in the seventh round", late.found(), 8);
        due("the last", late.foundPlace(7), "7 acbacbabcb " + TEN + " round 7");
        late.want(0, 0);
        due("eleven in the seventh round", late.found(), FULL);
    }

    static void terms2_itIsNotSpentByAPlaceOfElevenLettersThatIsNotFound() {
        Lines x = Lines.of(2, "1-0;1?a00");
        x.wantAll(0, TEN);
        due("one before is below it", x.found(), 2);
        Lines late = Lines.of(2, "1?a00;1-0");
        late.wantAll(0, TEN);
        due("one that would come later is below it", late.found(), FULL);
        Lines self = Lines.of(1, "0?a00;0?b10");
        self.aimAt(0, TEN, TEN);
        due("the aim is below it", self.found(), 1);
    }

    static void terms2_itIsSpentByThe81st() {
        Lines x = Lines.of(8, RING);
        x.wantAll(0, "aaaaaaaaa");
        due("80", x.found(), 80);
        x.want(0, 0);
        due("88", x.found(), FULL);
        due("10 times 8", found("0!a00;0!b10", "aaaaaaaaa", "bbbbbbb"), 80);
        due("9 times 9, the 81st being the last", found("0!a00;0!b10", "aaaaaaaa", "bbbbbbbb"), FULL);
        due("9 times 8", found("0!a00;0!b10", "aaaaaaaa", "bbbbbbb"), 72);
        due("10 times 8, and one more", found("0!a00;0!b10;7-0", "aaaaaaaaa", "bbbbbbb"), FULL);
    }

    static void terms2_itIsNotSpentByAnEightyFirstThatIsNotFound() {
        due("all again", found("0!a00;0!b10;0-0;0?c00;0?c10", "aaaaaaaaa", "bbbbbbb"), 80);
        due("such as others are below", found(RING + ";3-3;5?a16;6?b07", "aaaaaaaaa", ""), 80);
    }

    static void terms2_whereItIsSpentCallsAnswerFull() {
        for (Lines x : List.of(Twins.full(), spentBy81())) {
            due("found", x.found(), FULL);
            due("least", x.least(), FULL);
            due("far", x.far(), FULL);
            due("way", x.way(0), FULL);
            due("about the aim", x.about(0, 0), FULL);
            due("about one that there can't be", x.about(1000, 6), FULL);
            due("letter", x.letter(0, 0, 0), FULL);
        }
    }

    private static Lines spentBy81() {
        Lines x = Lines.of(8, RING);
        x.wantAll(0, "aaaaaaaaaa");
        return x;
    }

    static void terms2_itIsSpentEvenWhereTheAimIsBelowNow() {
        Lines x = Lines.of(2, "0!a00;1?b00");
        x.wantAll(0, "aaaaaaaaaa");
        x.goTimes(0, 10);
        due("far", x.far(), FULL);
        due("way", x.way(0), FULL);
        x.unarc();
        x.goTimes(0, 10);
        due("far, when it is spent no more", x.far(), 0);
    }

    static void terms2_itIsSpentNoMoreWhenTheMachineOrTheAimIsAnother() {
        Lines x = spentBy81();
        due("spent", x.found(), FULL);
        due("an arc less", x.unarc(), 7);
        due("found", x.found(), 8);
        x.arc(0, 1, 0, 0, 7);
        due("spent again", x.found(), FULL);
        x.aim(0);
        due("another aim", x.found(), 8);
        x.wantAll(0, "aaaaaaaaaa");
        due("spent again", x.found(), FULL);
        x.bag(1, true);
        due("behind bag", x.found(), 8);
        x.wantAll(0, "aaaaaaaaaa");
        due("spent again", x.found(), FULL);
        x.readText("0-0");
        due("behind read", x.found(), 1);
        x.states(2);
        due("behind states", x.found(), 1);
    }

    static void terms2_strictIsNotSpent() {
        String many = "1?a05;1?b05;1?c05;2?a01;2?b01;2?c01;3?a02;3?b02;3?c02;4?a03;4?b03;4?c03";
        Lines x = Lines.of(8, many + ";0!a16;6?a17;7-5");
        x.aim(5);
        due("far", x.far(), FULL);
        due("strict(0)", x.strict(0), NONE);
        due("strict(1)", x.strict(1), 3);
        due("strict(3)", x.strict(3), 3);
    }

    static void terms2_leastAreThoseBelowWhichNoOtherFoundIs() {
        Lines x = Lines.of(3, "1?a00;1?a10;1-0;2?b01;2?c01");
        due("found", x.found(), 10);
        int[] leasts = {1, 0, 0, 1, 0, 0, 0, 0, 1, 1};
        for (int k = 0; k < leasts.length; k++) {
            due("whether " + k + " is least", x.about(k, 6), leasts[k]);
        }
        due("least", x.least(), 4);
        Lines down = Lines.of(1, "0!a00");
        down.wantAll(0, "aaaaaaaaaa");
        due("found", down.found(), 11);
        due("the last alone is least", down.least(), 1);
        due("the last but one", down.about(9, 6), 0);
        due("the last", down.about(10, 6), 1);
    }

    static void terms2_farIsTheLeastRoundOfThoseFoundThatAreBelow() {
        Lines rounds = Lines.of(2, "0?a01;0!a00;0-0");
        rounds.aim(1);
        due("round 2, without the letter", rounds.far(), 2);
        rounds.go(1);
        due("round 1, with it; those of round 1 and 2 are below", rounds.far(), 1);
        rounds.lose(0, 0);
        due("round 2 again", rounds.far(), 2);
        rounds.unarc();
        rounds.unarc();
        due("it is not come to", rounds.far(), NONE);
    }

    static void terms2_theWayIsThatOfTheFirstFoundOfThatRound() {
        Lines x = Lines.of(3, "0!a00;0!b00;0?b02;0?a02;0!a02");
        x.aim(2);
        x.goAll(0, 1);
        due("ab: b, a and none are below", x.far(), 1);
        due("b was found first", x.way(0), 2);
        due("b is lost", x.lose(0, 1), 1);
        due("a was found before none", x.way(0), 3);
        due("a is lost", x.lose(0, 0), 0);
        due("none alone is below", x.way(0), 4);
        due("behind it", x.way(1), BAD);
    }

    static void terms2_theWayHasFarManyArcs() {
        Lines x = Lines.of(8, RING);
        x.go(7);
        x.lose(0, 0);
        x.wantAll(0, "aaaaaaaaa");
        due("far", x.far(), 79);
        for (int i = 0; i < 79; i++) {
            due("way(" + i + ")", x.way(i), i % 8 == 7 ? 7 : 6 - i % 8);
        }
        due("way(79)", x.way(79), BAD);
        due("way at the end of int", x.way(Integer.MAX_VALUE), BAD);
    }

    static void terms2_theWayCanBeGone() {
        Lines x = Lines.of(4, "0!b00;0!a01;1!b02;2?a02;2?b03");
        x.aim(3);
        x.go(0);
        int[] way = {x.way(0), x.way(1), x.way(2)};
        due("far", x.far(), 3);
        due("0!a01", x.go(way[0]), 1);
        due("1!b02", x.go(way[1]), 2);
        due("now", x.place(), "2 bab ");
        x.lose(0, 0);
        due("a is in front", x.go(way[2]), NOT);
        x.lose(0, 0);
        due("2?b03", x.go(way[2]), 3);
    }

    static void terms2_strictHasL0To3() {
        for (int l = 0; l <= 3; l++) {
            due("strict(" + l + ")", new Lines().strict(l), 0);
        }
        for (int l : new int[] {-1, 4, Integer.MIN_VALUE, Integer.MAX_VALUE}) {
            due("strict(" + l + ")", new Lines().strict(l), BAD);
        }
    }

    static void terms2_strictHasNoSendBeyondL() {
        for (int line = 0; line < 2; line++) {
            for (int many = 0; many <= 3; many++) {
                Lines x = Lines.of(5, "0!a" + line + "1;1!b" + line + "2;2!c" + line + "3;3!a" + line + "4");
                x.aim(many);
                for (int l = 0; l <= 3; l++) {
                    due(many + " letters, of " + l, x.strict(l), many <= l ? many : NONE);
                }
                x.aim(4);
                due("a fourth letter", x.strict(3), NONE);
                due("lost ones don't count", x.far(), 4);
            }
        }
    }

    static void terms2_strictLosesNoLetters() {
        Lines x = Lines.of(3, "0!b00;0!a00;0?a01;1?b02");
        x.aim(2);
        due("ab", x.strict(2), 4);
        x.go(0);
        due("b first", x.strict(3), NONE);
        due("far", x.far(), 4);
        x.reset();
        x.goAll(1, 0, 0);
        due("abb", x.strict(3), 2);
        x.aimAt(2, "b", "");
        due("abb to b", x.strict(3), 2);
        x.aimAt(2, "bb", "");
        due("abb to bb", x.strict(3), NONE);
        x.aimAt(2, "", "");
        due("the aim need only be below", x.strict(3), 2);
    }

    static void terms2_strictTellsTheFewestArcs() {
        Lines x = Lines.of(5, "0-1;1-2;2-3;3-4;0!a02;2?a03;0!b13;3?b14");
        x.aim(4);
        due("with no letters", x.strict(0), 4);
        due("with one", x.strict(1), 2);
        x.unarc();
        due("not by the last", x.strict(1), 2);
        x.unarc();
        due("nor by the send", x.strict(1), 3);
    }

    // ---- terms, part 3

    /** Now is state 1, with letters on both lines. */
    private static Lines away() {
        Lines x = Lines.of(2, "0!a00;0!b11");
        x.goAll(0, 1);
        x.typeText("0-1");
        x.sheet(0, 0, 5);
        return x;
    }

    static void terms3_nowIsState0WithoutLettersAtFirst() {
        due("now", new Lines().place(), "0  ");
    }

    private static void dueNow(String want, List<Call> calls) {
        for (Call call : calls) {
            Lines x = away();
            due(call.name, call.made.applyAsInt(x), call.due);
            due("now, behind " + call.name, x.place(), want);
        }
    }

    static void terms3_nowIsPutBackBehindWhatWasAccepted() {
        dueNow("0  ", List.of(
            new Call("states(1)", 2, x -> x.states(1)),
            new Call("states(2), as it was", 2, x -> x.states(2)),
            new Call("states(8)", 2, x -> x.states(8)),
            new Call("bag(0, true)", 0, x -> x.bag(0, true)),
            new Call("bag(1, true)", 0, x -> x.bag(1, true)),
            new Call("bag(1, false), as it was", 0, x -> x.bag(1, false)),
            new Call("arc", 2, x -> x.arc(0, 0, 0, 0, 0)),
            new Call("unarc", 1, Lines::unarc),
            new Call("read", 1, Lines::read),
            new Call("arcs of one", 3, x -> x.arcs(0, 0, 0, 1)),
            new Call("arcs of none", 2, x -> x.arcs(0, 0, 0, 0)),
            new Call("reset", 1, Lines::reset)));
    }

    static void terms3_nowIsNotPutBackBehindWhatWasRefused() {
        dueNow("1 a b", List.of(
            new Call("states(0)", BAD, x -> x.states(0)),
            new Call("states(9)", BAD, x -> x.states(9)),
            new Call("bag(2)", BAD, x -> x.bag(2, true)),
            new Call("arc", BAD, x -> x.arc(0, 0, 0, 0, 2)),
            new Call("read", -23, x -> x.readText("-0")),
            new Call("arcs of 13", BAD, x -> x.arcs(0, 0, 0, 13)),
            new Call("arcs off nothing", NULL, x -> x.arcs(1, 0, 0, 1)),
            new Call("arcs of ints", CAST, x -> x.arcs(0, 1, 0, 1)),
            new Call("arcs from 1 on", INDEX, x -> x.arcs(0, 0, 1, 1))));
        Lines x = new Lines();
        x.states(8);
        for (int i = 0; i < 20; i++) {
            x.arc(0, 1, 0, 2, 7);
        }
        x.go(19);
        due("a 21st", x.arc(0, 0, 0, 0, 0), FULL);
        due("now", x.place(), "7 c ");
        x.sheet(0, 0, 5);
        due("a 21st of a sheet", x.arcs(0, 0, 0, 1), FULL);
        due("now", x.place(), "7 c ");
        x.item(0, 0, 0, 8);
        due("not as told", x.arcs(0, 0, 0, 1), NOT);
        due("now", x.place(), "7 c ");
    }

    static void terms3_nowIsNotPutBackBehindOtherCalls() {
        List<Consumer<Lines>> others = List.of(
            x -> x.told(0, 0), x -> x.type('0', 1), x -> x.now(0, 0), x -> x.aim(1), x -> x.want(0, 0), Lines::found,
            x -> x.about(0, 0), x -> x.letter(0, 0, 0), Lines::least, Lines::far, x -> x.way(0), x -> x.strict(3),
            x -> x.sheet(1, 1, 5), x -> x.drop(0), x -> x.item(0, 0, 0, 1));
        for (int i = 0; i < others.size(); i++) {
            Lines x = away();
            others.get(i).accept(x);
            due("now, behind other call " + i, x.place(), "1 a b");
        }
    }

    static void terms3_aTextHas1To20Arcs() {
        for (int many = 1; many <= 22; many++) {
            Lines x = new Lines();
            String text = "0-1;".repeat(many - 1) + "2-3";
            int due = many <= 20 ? many : -20 - 79;
            due("read of " + many, x.readText(text), due);
            due("arcs", x.countArcs(), many <= 20 ? many : 0);
            due("the last one's state", x.told(many - 1, 4), many <= 20 ? 3 : BAD);
        }
        due("read of none", new Lines().read(), -20);
        due("read of none, with a blank", new Lines().readText(" "), -21);
    }

    static void terms3_eachArcOfATextIsAsItIsWritten() {
        for (String act : List.of("!", "?")) {
            for (int letter = 0; letter < 3; letter++) {
                for (int line = 0; line < 2; line++) {
                    Lines x = new Lines();
                    due("read", x.readText("3" + act + "abc".charAt(letter) + line + "2"), 1);
                    Suite.due("arc", x.arcParts(0), List.of(3, act.equals("!") ? 1 : 2, line, letter, 2));
                }
            }
        }
        Lines x = new Lines();
        due("read", x.readText("2-3"), 1);
        Suite.due("arc", x.arcParts(0), List.of(2, 0, 0, 0, 3));
    }

    static void terms3_bytes32CountForNothing() {
        String text = "0!c11;3-2;1?b03";
        for (int at = 0; at <= text.length(); at++) {
            for (int blanks = 1; blanks <= 9; blanks += 4) {
                dueThree(text.substring(0, at) + " ".repeat(blanks) + text.substring(at));
            }
        }
        dueThree(text.replaceAll("", "  "));
        dueThree(text + " ".repeat(130 - text.length()));
        dueThree(" ".repeat(130 - text.length()) + text);
    }

    private static void dueThree(String text) {
        Lines x = new Lines();
        due("read of '" + text + "'", x.readText(text), 3);
        Suite.due("arc 0", x.arcParts(0), List.of(0, 1, 1, 2, 1));
        Suite.due("arc 1", x.arcParts(1), List.of(3, 0, 0, 0, 2));
        Suite.due("arc 2", x.arcParts(2), List.of(1, 2, 0, 1, 3));
    }

    /** Texts up to a byte, and which bytes can stand there with four states. */
    private static final String[][] NEXT = {
        {"", "0123"}, {"3", "-!?"}, {"0!", "abc"}, {"0?", "abc"}, {"0-", "0123"}, {"0!c", "01"}, {"0?a", "01"}, {"1!b1", "0123"},
        {"2?b0", "0123"}, {"0-3", ";"}, {"0!a13", ";"}, {"0-0;", "0123"}, {"0!c02;", "0123"}, {"0-0;1?a13;1", "-!?"}};

    static void terms3_aFaultTellsThePlaceOfTheFirstByteThatCantStandThere() {
        for (String[] next : NEXT) {
            for (char c = 33; c <= 126; c++) {
                boolean can = next[1].indexOf(c) >= 0;
                int end = next[0].length() + 1;
                boolean whole = can && next[1].equals("0123") && (next[0] + c).matches(".*([0-3]-[0-3]|[0-3][!?][abc][01][0-3])");
                int due = whole ? next[0].split(";").length : can ? -20 - end : -20 - end + 1;
                due("read of '" + next[0] + c + "'", new Lines().readText(next[0] + c), due);
                if (!can) {
                    due("with more behind", new Lines().readText(next[0] + c + "0-0;~"), due);
                    due("behind blanks", new Lines().readText(next[0] + "   " + c), due - 3);
                    due("with blanks in it", new Lines().readText(" " + next[0] + c + " "), due - 1);
                }
            }
        }
    }

    static void terms3_theFaultOfTheEndTellsHowManyBytesThereAre() {
        for (String text : List.of("", "0", "0-", "0!", "0?", "0!a", "0?c", "0!a1", "0?b0", "0-1;", "0!a01;", "0-1;0-1;0!")) {
            for (int blanks = 0; blanks < 3; blanks++) {
                due("read of " + text, new Lines().readText(text + " ".repeat(blanks)), -20 - text.length() - blanks);
                due("read of it behind blanks", new Lines().readText(" ".repeat(blanks) + text), -20 - text.length() - blanks);
            }
        }
        due("130 blanks", new Lines().readText(" ".repeat(130)), -150);
        due("130 bytes, the last a digit", new Lines().readText(" ".repeat(129) + "0"), -150);
        due("130 bytes, the last a fault", new Lines().readText(" ".repeat(129) + "-"), -149);
        due("130 bytes, the last a ;", new Lines().readText("0-0" + " ".repeat(126) + ";"), -150);
        due("130 bytes, the last a fault", new Lines().readText("0-0" + " ".repeat(126) + "0"), -149);
        due("130 bytes", new Lines().readText("0-" + " ".repeat(127) + "3"), 1);
    }

    static void terms3_aStateThatThereIsNotCantStandThere() {
        for (int n = 1; n <= 8; n++) {
            for (int state = 0; state < 10; state++) {
                Lines x = new Lines();
                x.states(n);
                boolean is = state < n;
                due(n + " states, from " + state, x.readText(state + "-0"), is ? 1 : -20);
                due(n + " states, to " + state, x.readText("0-" + state), is ? 1 : -22);
                due(n + " states, sent to " + state, x.readText("0!a0" + state), is ? 1 : -24);
                due(n + " states, taken to " + state, x.readText("0?a0 " + state), is ? 1 : -25);
                due(n + " states, then from " + state, x.readText("0-0;" + state + "-0"), is ? 2 : -24);
            }
        }
    }

    static void terms3_a21stArcsSemicolonCantStandThere() {
        String twenty = "0-0;".repeat(19) + "1-1";
        due("20", new Lines().readText(twenty), 20);
        due("20, and blanks", new Lines().readText(twenty + " ".repeat(51)), 20);
        due("a ;", new Lines().readText(twenty + ";"), -20 - 79);
        due("a ; behind blanks", new Lines().readText(twenty + "  ;"), -20 - 81);
        due("a 21st", new Lines().readText(twenty + ";0-0"), -20 - 79);
        due("a wrong 21st", new Lines().readText(twenty + ";;"), -20 - 79);
        due("another byte", new Lines().readText(twenty + "0"), -20 - 79);
        due("a fault before it", new Lines().readText("0-0;".repeat(19) + "1-;0-0"), -20 - 78);
        String long20 = "0!a00;".repeat(19) + "3?c13";
        due("20 of the longest", new Lines().readText(long20), 20);
        due("20 of the longest, and blanks", new Lines().readText(long20 + " ".repeat(11)), 20);
        due("a ; behind the longest", new Lines().readText(long20 + ";"), -20 - 119);
    }

    static void terms3_afterAFaultTheArcsAreAsTheyWere() {
        Lines x = Lines.of(4, "0!c11;3-2");
        for (String text : List.of("", "1?a02;", "1?a02;0", "1?a02;4-0", "1?a02;0!", "1?a02 0", "0-0;".repeat(20))) {
            x.readText(text);
            due("arcs", x.countArcs(), 2);
            Suite.due("arc 0", x.arcParts(0), List.of(0, 1, 1, 2, 1));
            Suite.due("arc 1", x.arcParts(1), List.of(3, 0, 0, 0, 2));
        }
    }

    static void terms3_sheets0And1HoldNothingAtFirst() {
        for (int sheet = 0; sheet < 2; sheet++) {
            Lines x = new Lines();
            due("drop", x.drop(sheet), NULL);
            for (int lane = 0; lane < 2; lane++) {
                due("item", x.item(sheet, lane, 0, 0), NULL);
                due("arcs", x.arcs(sheet, lane, 0, 0), NULL);
            }
        }
        for (int sheet : NO_LINES) {
            Lines x = new Lines();
            due("drop(" + sheet + ")", x.drop(sheet), BAD);
            due("item", x.item(sheet, 0, 0, 0), BAD);
            due("arcs", x.arcs(sheet, 0, 0, 0), BAD);
            due("sheet", x.sheet(sheet, 0, 0), BAD);
        }
    }

    static void terms3_aSheetIsARowOfOneLane() {
        for (int lane = 0; lane < 2; lane++) {
            Lines x = new Lines();
            x.sheet(1, lane, 5);
            due("item", x.item(1, lane, 0, 0), 1);
            due("item of the other", x.item(1, 1 - lane, 0, 0), CAST);
            due("arcs", x.arcs(1, lane, 0, 1), 1);
            due("arcs of the other", x.arcs(1, 1 - lane, 0, 1), CAST);
            due("the other sheet", x.item(0, lane, 0, 0), NULL);
        }
        for (int lane : NO_LINES) {
            Lines x = new Lines();
            x.sheet(0, 0, 5);
            due("sheet of lane " + lane, x.sheet(0, lane, 5), BAD);
            due("item of lane " + lane, x.item(0, lane, 0, 0), BAD);
            due("arcs of lane " + lane, x.arcs(0, lane, 0, 0), BAD);
        }
    }

    static void terms3_aSheetHas0To60Items() {
        for (int lane = 0; lane < 2; lane++) {
            for (int n = 0; n <= 60; n++) {
                Lines x = new Lines();
                due("sheet of " + n, x.sheet(0, lane, n), n);
                due("the last item", x.item(0, lane, n - 1, 0), n == 0 ? INDEX : 1);
                due("the item behind it", x.item(0, lane, n, 0), INDEX);
                due("item -1", x.item(0, lane, -1, 0), INDEX);
                due("drop", x.drop(0), n);
            }
            due("sheet of 61", new Lines().sheet(0, lane, 61), BAD);
            due("sheet of -1", new Lines().sheet(0, lane, -1), Lines.SIZE);
        }
    }

    static void terms3_ofAnArcASheetHasFromActLineLetterToOneBehindTheOther() {
        for (int lane = 0; lane < 2; lane++) {
            Lines x = new Lines();
            x.sheet(0, lane, 11);
            x.putItems(0, lane, 1, 3, 1, 0, 2, 1, 2, 2, 1, 0, 3);
            due("arcs", x.arcs(0, lane, 1, 2), 2);
            Suite.due("the first", x.arcParts(0), List.of(3, 1, 0, 2, 1));
            Suite.due("the second", x.arcParts(1), List.of(2, 2, 1, 0, 3));
            due("the second alone", x.arcs(0, lane, 6, 1), 3);
            Suite.due("the third", x.arcParts(2), List.of(2, 2, 1, 0, 3));
        }
    }
}
