/** Each promise of the document by its number: ordinary inputs, the edges that it names, and wrong inputs. */
public final class PromisesTest {
    private static final int BAD = -1, NOT = -2, FULL = -3, NONE = -4, NULL = -11, CAST = -12, INDEX = -13, SIZE = -14;
    private static final int[] OUTSIDE = {-1, Integer.MIN_VALUE, Integer.MAX_VALUE, 1 << 30};

    private static int promise = 0;
    private static int wrong = 0;
    private static int calls = 0;

    private static void due(String what, int got, int want) {
        calls++;
        if (got != want) {
            wrong++;
            System.out.println("promise " + promise + ": " + what + " answered " + got + ", due is " + want);
        }
    }

    public static void main(String[] args) {
        for (promise = 1; promise <= 25; promise++) {
            check(promise);
        }
        System.out.println(wrong == 0 ? calls + " answers are as due" : wrong + " answers are not as due");
        if (wrong != 0) {
            System.exit(1);
        }
    }

    private static void check(int number) {
        switch (number) {
            case 1 -> newObject();
            case 2 -> states();
            case 3 -> bag();
            case 4 -> arc();
            case 5 -> unarc();
            case 6 -> told();
            case 7 -> type();
            case 8 -> read();
            case 9 -> arcs();
            case 10 -> go();
            case 11 -> lose();
            case 12 -> now();
            case 13 -> reset();
            case 14 -> aim();
            case 15 -> want();
            case 16 -> found();
            case 17 -> about();
            case 18 -> letter();
            case 19 -> least();
            case 20 -> far();
            case 21 -> way();
            case 22 -> strict();
            case 23 -> sheet();
            case 24 -> drop();
            default -> item();
        }
    }

    // ---- what the promises' tests share

    private static void typeAll(ForgettingLines x, String text) {
        for (int i = 0; i < text.length(); i += 8) {
            long w = 0;
            int n = Math.min(8, text.length() - i);
            for (int j = 0; j < n; j++) {
                w = w << 8 | text.charAt(i + j);
            }
            due("type of " + text, x.type(w, n), i + n);
        }
    }

    private static int readText(ForgettingLines x, String text) {
        typeAll(x, text);
        return x.read();
    }

    private static ForgettingLines machine(int states, String text) {
        ForgettingLines x = new ForgettingLines();
        x.states(states);
        int many = text.length() - text.replace(";", "").length() + 1;
        due("read of " + text, readText(x, text), many);
        return x;
    }

    /** Wants the letters of a text on a line. */
    private static void wantAll(ForgettingLines x, int line, String letters) {
        for (int i = 0; i < letters.length(); i++) {
            x.want(line, letters.charAt(i) - 'a');
        }
    }

    private static void dueNow(String what, ForgettingLines x, int state, String row0, String row1) {
        due(what + ": state", x.now(0, -2), state);
        String[] rows = {row0, row1};
        for (int line = 0; line < 2; line++) {
            due(what + ": how many on " + line, x.now(line, -1), rows[line].length());
            for (int i = 0; i < rows[line].length(); i++) {
                due(what + ": letter " + i + " on " + line, x.now(line, i), rows[line].charAt(i) - 'a');
            }
        }
    }

    private static void dueFound(ForgettingLines x, int k, int[] facts, String row0, String row1) {
        for (int what = 0; what < 7; what++) {
            due("about(" + k + ", " + what + ")", x.about(k, what), facts[what]);
        }
        String[] rows = {row0, row1};
        for (int line = 0; line < 2; line++) {
            for (int i = 0; i < rows[line].length(); i++) {
                due("letter(" + k + ", " + line + ", " + i + ")", x.letter(k, line, i), rows[line].charAt(i) - 'a');
            }
            due("letter behind the last", x.letter(k, line, rows[line].length()), BAD);
        }
    }

    private static void dueArc(ForgettingLines x, int arc, int... parts) {
        for (int what = 0; what < 5; what++) {
            due("told(" + arc + ", " + what + ")", x.told(arc, what), parts[what]);
        }
    }

    private static int countArcs(ForgettingLines x) {
        int many = 0;
        while (x.told(many, 0) != BAD) {
            many++;
        }
        return many;
    }

    /** A machine whose search comes to an 11th letter. */
    private static ForgettingLines tooLong() {
        ForgettingLines x = machine(2, "0?a01");
        x.aim(1);
        wantAll(x, 0, "aaaaaaaaaa");
        return x;
    }

    /** A machine whose search finds, for each of eight states, each row of a up to the one that is wanted. */
    private static ForgettingLines manyFound(String wanted) {
        ForgettingLines x = machine(8, "1-0;2-1;3-2;4-3;5-4;6-5;7-6;0!a00");
        wantAll(x, 0, wanted);
        return x;
    }

    private static ForgettingLines tooMany() {
        return manyFound("aaaaaaaaaa");
    }

    // ---- the promises

    private static void newObject() {
        ForgettingLines x = new ForgettingLines();
        due("arcs", countArcs(x), 0);
        dueNow("new", x, 0, "", "");
        due("found", x.found(), 1);
        dueFound(x, 0, new int[] {0, 0, 0, 0, -2, -2, 1}, "", "");
        due("far", x.far(), 0);
        due("bag 0", x.bag(0, false), 0);
        due("bag 1", x.bag(1, false), 0);
        due("drop 0", x.drop(0), NULL);
        due("drop 1", x.drop(1), NULL);
        due("the tape", x.read(), -20);
        due("states", x.states(4), 4);
    }

    private static void states() {
        ForgettingLines x = new ForgettingLines();
        for (int n : new int[] {0, 9, -1, Integer.MIN_VALUE, Integer.MAX_VALUE}) {
            due("states(" + n + ")", x.states(n), BAD);
        }
        due("states(1)", x.states(1), 4);
        due("arc to state 1 of 1", x.arc(0, 0, 0, 0, 1), BAD);
        due("states(8)", x.states(8), 1);
        due("arc to state 7 of 8", x.arc(0, 1, 0, 1, 7), 0);
        due("arc to state 8 of 8", x.arc(0, 0, 0, 0, 8), BAD);
        x.bag(1, true);
        x.aim(7);
        x.want(1, 2);
        x.sheet(0, 1, 7);
        x.type('0', 1);
        x.go(0);
        due("states(0)", x.states(0), BAD);
        dueNow("behind one that is not accepted", x, 7, "b", "");
        due("arcs stay", countArcs(x), 1);
        due("aim stays", x.about(0, 3), 1);
        due("states(8) again", x.states(8), 8);
        due("arcs go", countArcs(x), 0);
        dueNow("behind states", x, 0, "", "");
        dueFound(x, 0, new int[] {0, 0, 0, 0, -2, -2, 1}, "", "");
        due("the tape stays", x.type('-', 1), 2);
        due("the sheet stays", x.drop(0), 7);
        due("the bag stays", x.bag(1, true), 1);
    }

    private static void bag() {
        ForgettingLines x = machine(4, "0!c00;0!a00;0!b00;0!c10;0!a10;0?b00");
        for (int line : new int[] {2, -1, Integer.MIN_VALUE, Integer.MAX_VALUE}) {
            due("bag(" + line + ")", x.bag(line, true), BAD);
        }
        x.aim(2);
        x.want(0, 1);
        x.go(0);
        due("bag(2) again", x.bag(2, true), BAD);
        dueNow("behind one that is not accepted", x, 0, "c", "");
        due("aim stays", x.about(0, 0), 2);
        due("bag(0, true)", x.bag(0, true), 0);
        dueNow("behind bag", x, 0, "", "");
        dueFound(x, 0, new int[] {0, 0, 0, 0, -2, -2, 1}, "", "");
        due("arcs stay", countArcs(x), 6);
        for (int arc = 0; arc < 5; arc++) {
            x.go(arc);
        }
        dueNow("a bag and a row", x, 0, "abc", "ca");
        due("take out of the middle", x.go(5), 0);
        dueNow("taken", x, 0, "ac", "ca");
        due("bag(1, true)", x.bag(1, true), 0);
        due("bag(0, true) again", x.bag(0, true), 1);
        due("bag(0, false)", x.bag(0, false), 1);
        due("bag(0, false) again", x.bag(0, false), 0);
        for (int arc = 0; arc < 5; arc++) {
            x.go(arc);
        }
        dueNow("a row and a bag", x, 0, "cab", "ac");
        due("not in front", x.go(5), NOT);
        x.aim(3);
        x.bag(0, false);
        due("aim, when the bag is as it was", x.about(0, 0), 0);
        dueNow("now, when the bag is as it was", x, 0, "", "");
    }

    private static void arc() {
        ForgettingLines x = new ForgettingLines();
        int[][] bad = {{4, 0, 0, 0, 0}, {0, 0, 0, 0, 4}, {0, 3, 0, 0, 0}, {0, 1, 2, 0, 0}, {0, 2, 2, 0, 0}, {0, 1, 0, 3, 0}, {0, 2, 1, 3, 0}};
        for (int[] b : bad) {
            due("arc", x.arc(b[0], b[1], b[2], b[3], b[4]), BAD);
        }
        for (int v : OUTSIDE) {
            due("from", x.arc(v, 0, 0, 0, 0), BAD);
            due("act", x.arc(0, v, 0, 0, 0), BAD);
            due("line of send", x.arc(0, 1, v, 0, 0), BAD);
            due("letter of send", x.arc(0, 1, 0, v, 0), BAD);
            due("line of take", x.arc(0, 2, v, 0, 0), BAD);
            due("letter of take", x.arc(0, 2, 0, v, 0), BAD);
            due("to", x.arc(0, 0, 0, 0, v), BAD);
        }
        due("none are there", countArcs(x), 0);
        for (int i = 0; i < 4; i++) {
            due("act none looks at no line and letter", x.arc(i, 0, OUTSIDE[i], OUTSIDE[3 - i], 3 - i), i);
        }
        due("send", x.arc(3, 1, 1, 2, 3), 4);
        x.aim(3);
        x.want(1, 2);
        x.go(0);
        due("bad", x.arc(4, 0, 0, 0, 0), BAD);
        due("now stays", x.now(0, -2), 3);
        due("take", x.arc(0, 2, 0, 1, 0), 5);
        dueNow("behind arc", x, 0, "", "");
        due("aim stays", x.about(0, 3), 1);
        for (int i = 6; i < 20; i++) {
            due("arc", x.arc(0, 0, 0, 0, 3), i);
        }
        x.go(19);
        due("21st", x.arc(0, 0, 0, 0, 0), FULL);
        due("bad goes first", x.arc(0, 0, 0, 0, 4), BAD);
        due("now stays", x.now(0, -2), 3);
        due("20", countArcs(x), 20);
    }

    private static void unarc() {
        ForgettingLines x = new ForgettingLines();
        due("of none", x.unarc(), NOT);
        x.arc(0, 1, 1, 2, 1);
        x.arc(1, 2, 1, 2, 2);
        x.aim(2);
        due("found", x.found(), 3);
        x.go(0);
        due("of two", x.unarc(), 1);
        dueNow("behind unarc", x, 0, "", "");
        dueArc(x, 0, 0, 1, 1, 2, 1);
        due("aim stays, and is alone", x.found(), 1);
        due("state of it", x.about(0, 0), 2);
        due("of one", x.unarc(), 0);
        due("of none again", x.unarc(), NOT);
        due("arc", x.arc(0, 0, 0, 0, 0), 0);
    }

    private static void told() {
        ForgettingLines x = new ForgettingLines();
        due("of none", x.told(0, 0), BAD);
        x.arc(3, 2, 1, 2, 1);
        x.arc(2, 1, 0, 1, 3);
        x.arc(1, 0, 1, 2, 2);
        dueArc(x, 0, 3, 2, 1, 2, 1);
        dueArc(x, 1, 2, 1, 0, 1, 3);
        dueArc(x, 2, 1, 0, 0, 0, 2);
        due("arc 3", x.told(3, 0), BAD);
        due("what 5", x.told(0, 5), BAD);
        for (int v : OUTSIDE) {
            due("arc", x.told(v, 0), BAD);
            due("what", x.told(0, v), BAD);
        }
    }

    private static void type() {
        ForgettingLines x = new ForgettingLines();
        for (int n : new int[] {0, 9, -1, Integer.MIN_VALUE, Integer.MAX_VALUE}) {
            due("n " + n, x.type(0x3030303030303030L, n), BAD);
        }
        due("byte 31", x.type(31, 1), BAD);
        due("byte 127", x.type(127, 1), BAD);
        due("byte 255", x.type(255, 1), BAD);
        due("byte 0", x.type(0, 1), BAD);
        due("byte 128 on top", x.type(0x8030303030303030L, 8), BAD);
        due("a bad byte in the middle", x.type(0x30301f3030L, 5), BAD);
        due("a bad byte below", x.type(0x3000L, 2), BAD);
        due("bytes above are not looked at", x.type(0xffffffffffffff30L, 1), 1);
        due("the highest first", x.type(0xff2d31L, 2), 3);
        due("read", x.read(), 1);
        dueArc(x, 0, 0, 0, 0, 0, 1);
        due("32 and 126", x.type(0x207eL, 2), 2);
        due("read of it", x.read(), -21);
        for (int i = 1; i <= 16; i++) {
            due("type", x.type(0x2020202020202020L, 8), 8 * i);
        }
        due("three more", x.type(0x202020L, 3), FULL);
        due("bad goes first", x.type(0x20201fL, 3), BAD);
        due("two more", x.type(0x2020L, 2), 130);
        due("one more", x.type(0x20L, 1), FULL);
        due("the end", x.read(), -150);
        due("empty then", x.type(0x20L, 1), 1);
    }

    private static void read() {
        ForgettingLines x = new ForgettingLines();
        due("read", readText(x, "0!c11;1?b02;2-3"), 3);
        dueArc(x, 0, 0, 1, 1, 2, 1);
        dueArc(x, 1, 1, 2, 0, 1, 2);
        dueArc(x, 2, 2, 0, 0, 0, 3);
        x.aim(3);
        x.go(0);
        String[] faults = {
            "", "0", "0!", "0!a", "0!a0", "   ", "0-1;", "0-1 ; ", "0- 1 1", "4-0", "0-4", "8-0", "a-0", "-", " ;", "00",
            "0a", "0!d00", "0!A00", "0!a20", "0?a 0 4", "0?0", "0-1;4", "0-1;0-1;0?c1x", "0-1,0-1", "0=1", "0~1", "0-a01"};
        int[] places = {
            0, 1, 2, 3, 4, 3, 4, 6, 5, 0, 2, 0, 0, 0, 1, 1,
            1, 2, 2, 3, 6, 2, 4, 12, 3, 1, 1, 2};
        for (int i = 0; i < faults.length; i++) {
            due("fault of '" + faults[i] + "'", readText(x, faults[i]), -20 - places[i]);
            due("the tape is empty", x.read(), -20);
        }
        due("arcs stay", countArcs(x), 3);
        dueNow("behind a fault", x, 1, "", "c");
        due("blanks", readText(x, "  1 ? b 1 2 ;0-0 ;  3 ! a 0 3   "), 3);
        dueNow("behind read", x, 0, "", "");
        due("aim stays", x.about(0, 0), 3);
        dueArc(x, 0, 1, 2, 1, 1, 2);
        dueArc(x, 1, 0, 0, 0, 0, 0);
        dueArc(x, 2, 3, 1, 0, 0, 3);
        String nineteen = "0-1;".repeat(19);
        due("20 arcs", readText(x, nineteen + "2?c13"), 20);
        dueArc(x, 19, 2, 2, 1, 2, 3);
        due("a 21st arc's ;", readText(x, nineteen + "0-1;"), -20 - 79);
        due("a 21st arc", readText(x, nineteen + "0-1 ;0-1"), -20 - 80);
        due("20 arcs stay", countArcs(x), 20);
        x.states(8);
        due("state 7", readText(x, "7-7"), 1);
        due("state 8", readText(x, "7-8"), -22);
        due("no 9", readText(x, "9-8"), -20);
    }

    private static void arcs() {
        ForgettingLines x = new ForgettingLines();
        due("sheet 2", x.arcs(2, 0, 0, 0), BAD);
        due("lane 2", x.arcs(0, 2, 0, 0), BAD);
        due("n 13", x.arcs(0, 0, 0, 13), BAD);
        for (int v : OUTSIDE) {
            due("sheet", x.arcs(v, 0, 0, 0), BAD);
            due("lane", x.arcs(0, v, 0, 0), BAD);
            due("n", x.arcs(0, 0, 0, v), BAD);
        }
        due("null", x.arcs(1, 1, -1, 1), NULL);
        x.sheet(1, 1, 60);
        due("cast", x.arcs(1, 0, -1, 1), CAST);
        for (int v : OUTSIDE) {
            due("index", x.arcs(1, 1, v, 0), INDEX);
            due("index", x.arcs(1, 1, v, 12), INDEX);
        }
        due("index 1 of 12", x.arcs(1, 1, 1, 12), INDEX);
        due("index 61 of none", x.arcs(1, 1, 61, 0), INDEX);
        due("none", x.arcs(1, 1, 60, 0), 0);
        int[] items = {9, 3, 1, 1, 2, 0, 0, 0, 7, 9, 1};
        for (int i = 0; i < items.length; i++) {
            x.item(1, 1, i, items[i]);
        }
        x.aim(3);
        due("two, the second one with no look at line and letter", x.arcs(1, 1, 1, 2), 2);
        dueArc(x, 0, 3, 1, 1, 2, 0);
        dueArc(x, 1, 0, 0, 0, 0, 1);
        due("one from another item on", x.arcs(1, 1, 11, 1), 3);
        dueArc(x, 2, 0, 0, 0, 0, 0);
        due("aim stays", x.about(0, 0), 3);
        arcsNotAsTold();
        arcsFull();
    }

    private static void arcsNotAsTold() {
        ForgettingLines x = new ForgettingLines();
        x.sheet(0, 0, 10);
        x.arc(0, 0, 0, 0, 3);
        x.go(0);
        int[] good = {0, 1, 0, 0, 3};
        int[] tooMuch = {4, 3, 2, 3, 4};
        for (int part = 0; part < 5; part++) {
            x.item(0, 0, 5 + part, good[part]);
        }
        for (int part = 0; part < 5; part++) {
            x.item(0, 0, 5 + part, tooMuch[part]);
            due("part " + part, x.arcs(0, 0, 0, 2), NOT);
            x.item(0, 0, 5 + part, 255);
            due("part " + part + " below 0", x.arcs(0, 0, 0, 2), NOT);
            x.item(0, 0, 5 + part, good[part]);
        }
        due("index goes before", x.arcs(0, 0, 6, 1), INDEX);
        due("now stays", x.now(0, -2), 3);
        due("no arcs, but accepted", x.arcs(0, 0, 10, 0), 1);
        dueNow("behind arcs", x, 0, "", "");
        due("lowest bits of 256 are 0", x.item(0, 0, 5, 256), 1);
        due("two", x.arcs(0, 0, 0, 2), 3);
        dueArc(x, 2, 0, 1, 0, 0, 3);
    }

    private static void arcsFull() {
        ForgettingLines x = new ForgettingLines();
        x.sheet(0, 1, 60);
        due("12", x.arcs(0, 1, 0, 12), 12);
        x.item(0, 1, 59, 3);
        due("9 more", x.arcs(0, 1, 15, 9), FULL);
        due("8 more", x.arcs(0, 1, 20, 8), 20);
        dueArc(x, 19, 0, 0, 0, 0, 3);
        x.go(19);
        due("1 more", x.arcs(0, 1, 0, 1), FULL);
        due("now stays", x.now(0, -2), 3);
        x.item(0, 1, 4, 4);
        due("not goes before full", x.arcs(0, 1, 0, 1), NOT);
        due("none more", x.arcs(0, 1, 0, 0), 20);
        due("now is as at first", x.now(0, -2), 0);
    }

    private static void go() {
        ForgettingLines x = machine(3, "0!a01;1!b01;1?b02;1?a02;2-0;0!c10;0?c10");
        due("arc 7", x.go(7), BAD);
        for (int v : OUTSIDE) {
            due("arc", x.go(v), BAD);
        }
        due("of another state", x.go(1), NOT);
        due("no letter", x.go(6), NOT);
        due("send", x.go(0), 1);
        due("send behind", x.go(1), 1);
        dueNow("sent", x, 1, "ab", "");
        due("not in front", x.go(2), NOT);
        due("take", x.go(3), 2);
        dueNow("taken", x, 2, "b", "");
        due("none", x.go(4), 0);
        for (int i = 0; i < 10; i++) {
            due("send c", x.go(5), 0);
        }
        due("an 11th", x.go(5), FULL);
        dueNow("full", x, 0, "b", "cccccccccc");
        due("the other line is not full", x.go(0), 1);
        due("not goes before full", x.go(5), NOT);
        x.go(3);
        x.reset();
        x.bag(1, true);
        for (int i = 0; i < 10; i++) {
            x.go(5);
        }
        due("an 11th in the bag", x.go(5), FULL);
        due("take off a full line", x.go(6), 0);
        due("then there is room", x.go(5), 0);
        ForgettingLines full = machine(1, "0!a00;0-0");
        for (int i = 0; i < 10; i++) {
            full.go(0);
        }
        due("none with a full line", full.go(1), 0);
    }

    private static void lose() {
        ForgettingLines x = machine(1, "0!c00;0!a00;0!b00;0!b10");
        due("of none", x.lose(0, 0), BAD);
        for (int arc = 0; arc < 4; arc++) {
            x.go(arc);
        }
        due("line 2", x.lose(2, 0), BAD);
        due("behind the last", x.lose(0, 3), BAD);
        for (int v : OUTSIDE) {
            due("line", x.lose(v, 0), BAD);
            due("i", x.lose(0, v), BAD);
        }
        dueNow("nothing is lost", x, 0, "cab", "b");
        due("the middle one", x.lose(0, 1), 0);
        dueNow("two left", x, 0, "cb", "b");
        due("the last", x.lose(0, 1), 1);
        due("the other line's", x.lose(1, 0), 1);
        due("the first", x.lose(0, 0), 2);
        dueNow("none left", x, 0, "", "");
        x.bag(0, true);
        for (int arc = 0; arc < 3; arc++) {
            x.go(arc);
        }
        due("of a bag the least first", x.lose(0, 0), 0);
        dueNow("of a bag", x, 0, "bc", "");
        x.bag(0, false);
        for (int i = 0; i < 10; i++) {
            x.go(i % 3);
        }
        dueNow("ten", x, 0, "cabcabcabc", "");
        due("the tenth", x.lose(0, 9), 2);
        due("the fifth", x.lose(0, 4), 0);
        dueNow("eight", x, 0, "cabcbcab", "");
    }

    private static void now() {
        ForgettingLines x = machine(4, "0!b03;3!c13");
        x.go(0);
        x.go(1);
        for (int v : OUTSIDE) {
            due("state, whatever line", x.now(v, -2), 3);
            due("how many, line", x.now(v, -1), BAD);
            due("letter, line", x.now(v, 0), BAD);
        }
        due("state", x.now(2, -2), 3);
        due("how many on 2", x.now(2, -1), BAD);
        due("how many on 0", x.now(0, -1), 1);
        due("letter 0", x.now(0, 0), 1);
        due("letter 0 of 1", x.now(1, 0), 2);
        for (int i : new int[] {1, -3, Integer.MIN_VALUE, Integer.MAX_VALUE}) {
            due("letter " + i, x.now(0, i), BAD);
        }
    }

    private static void reset() {
        ForgettingLines x = machine(4, "0!b03;3!c13");
        x.aim(2);
        x.go(0);
        x.go(1);
        due("reset", x.reset(), 1);
        dueNow("behind reset", x, 0, "", "");
        due("aim stays", x.about(0, 0), 2);
        due("arcs stay", countArcs(x), 2);
        due("reset again", x.reset(), 1);
    }

    private static void aim() {
        ForgettingLines x = machine(3, "0!b02");
        due("state 3", x.aim(3), BAD);
        for (int v : OUTSIDE) {
            due("state", x.aim(v), BAD);
        }
        x.go(0);
        x.want(1, 1);
        due("bad", x.aim(3), BAD);
        due("stays", x.about(0, 3), 1);
        due("aim", x.aim(2), 1);
        dueFound(x, 0, new int[] {2, 0, 0, 0, -2, -2, 1}, "", "");
        dueNow("now stays", x, 2, "b", "");
        x.want(0, 1);
        due("the same state", x.aim(2), 1);
        due("without letters", x.about(0, 2), 0);
    }

    private static void want() {
        ForgettingLines x = machine(1, "0!a00");
        x.go(0);
        due("line 2", x.want(2, 0), BAD);
        due("letter 3", x.want(0, 3), BAD);
        for (int v : OUTSIDE) {
            due("line", x.want(v, 0), BAD);
            due("letter", x.want(0, v), BAD);
        }
        due("c", x.want(0, 2), 1);
        due("a", x.want(0, 0), 2);
        due("b", x.want(0, 1), 3);
        due("b on 1", x.want(1, 1), 1);
        dueFound(x, 0, new int[] {0, 0, 3, 1, -2, -2, 1}, "cab", "b");
        dueNow("now stays", x, 0, "a", "");
        x.bag(1, true);
        wantAll(x, 1, "cabacb");
        dueFound(x, 0, new int[] {0, 0, 0, 6, -2, -2, 1}, "", "aabbcc");
        wantAll(x, 1, "ccc");
        due("a tenth", x.want(1, 0), 10);
        due("an 11th", x.want(1, 0), FULL);
        due("bad goes first", x.want(1, 3), BAD);
        dueFound(x, 0, new int[] {0, 0, 0, 10, -2, -2, 1}, "", "aaabbccccc");
        for (int i = 1; i <= 10; i++) {
            due("row", x.want(0, i % 3), i);
        }
        due("an 11th", x.want(0, 0), FULL);
        due("letter 9", x.letter(0, 0, 9), 1);
    }

    private static void found() {
        due("too long", tooLong().found(), FULL);
        due("too many", tooMany().found(), FULL);
        ForgettingLines x = machine(2, "0?a01;0?b01;1?a11");
        due("aim alone", x.found(), 1);
        x.aim(1);
        due("a place BELOW holds back", x.found(), 3);
        x.want(0, 0);
        due("two", x.found(), 3);
        dueFound(x, 1, new int[] {0, 1, 2, 0, 0, 0, 1}, "aa", "");
        dueFound(x, 2, new int[] {0, 1, 2, 0, 1, 0, 1}, "ba", "");
        wantAll(x, 0, "aaaaaaaa");
        due("nine wanted", x.found(), 3);
        x.want(0, 0);
        due("ten wanted, an 11th letter", x.found(), FULL);
        ForgettingLines held = machine(2, "0-1;0?a01");
        held.aim(1);
        wantAll(held, 0, "aaaaaaaaaa");
        due("an 11th letter that would not be found", held.found(), 2);
        ForgettingLines other = machine(2, "0?a11");
        other.aim(1);
        wantAll(other, 1, "aaaaaaaaa");
        due("nine wanted on line 1", other.found(), 2);
        other.want(1, 0);
        due("ten wanted on line 1", other.found(), FULL);
        other.aim(1);
        due("none wanted", other.found(), 2);
        foundEighty();
        foundSent();
    }

    private static void foundEighty() {
        ForgettingLines x = manyFound("aaaaaaaaa");
        due("80", x.found(), 80);
        due("80 least", x.least(), 8);
        due("the 80th", x.about(79, 0), 7);
        due("the 81st", x.about(80, 0), BAD);
        x.want(0, 0);
        due("88", x.found(), FULL);
        ForgettingLines both = machine(1, "0!a00;0!a10;0-0");
        wantAll(both, 0, "aaaaaaaaa");
        wantAll(both, 1, "aaaaaaa");
        due("10 times 8", both.found(), 80);
        both.aim(0);
        wantAll(both, 0, "aaaaaaaa");
        wantAll(both, 1, "aaaaaaaa");
        due("9 times 9", both.found(), FULL);
        both.aim(0);
        due("spent no more", both.found(), 1);
    }

    private static void foundSent() {
        ForgettingLines x = machine(2, "0!a01;0!b01");
        x.aim(1);
        wantAll(x, 0, "ab");
        due("found", x.found(), 3);
        dueFound(x, 1, new int[] {0, 1, 2, 0, 0, 0, 0}, "ab", "");
        dueFound(x, 2, new int[] {0, 1, 1, 0, 1, 0, 1}, "a", "");
        x.bag(0, true);
        x.aim(1);
        wantAll(x, 0, "ab");
        due("found of a bag", x.found(), 3);
        dueFound(x, 1, new int[] {0, 1, 1, 0, 0, 0, 1}, "b", "");
        dueFound(x, 2, new int[] {0, 1, 1, 0, 1, 0, 1}, "a", "");
        ForgettingLines taken = machine(2, "0?b11;0?a11");
        taken.aim(1);
        wantAll(taken, 1, "ac");
        due("found of takes", taken.found(), 3);
        dueFound(taken, 1, new int[] {0, 1, 0, 3, 0, 0, 1}, "", "bac");
        dueFound(taken, 2, new int[] {0, 1, 0, 3, 1, 0, 1}, "", "aac");
        taken.bag(1, true);
        taken.aim(1);
        wantAll(taken, 1, "ca");
        dueFound(taken, 1, new int[] {0, 1, 0, 3, 0, 0, 1}, "", "abc");
        dueFound(taken, 2, new int[] {0, 1, 0, 3, 1, 0, 1}, "", "aac");
    }

    private static void about() {
        ForgettingLines x = machine(3, "0!a01;1?a02;0?b10;0-1;1-1");
        x.aim(2);
        due("found", x.found(), 3);
        dueFound(x, 0, new int[] {2, 0, 0, 0, -2, -2, 1}, "", "");
        dueFound(x, 1, new int[] {1, 1, 1, 0, 1, 0, 1}, "a", "");
        dueFound(x, 2, new int[] {0, 2, 0, 0, 0, 1, 1}, "", "");
        due("k 3", x.about(3, 0), BAD);
        due("what 7", x.about(0, 7), BAD);
        for (int v : OUTSIDE) {
            due("k", x.about(v, 0), BAD);
            due("what", x.about(0, v), BAD);
        }
        for (ForgettingLines spent : new ForgettingLines[] {tooLong(), tooMany()}) {
            due("spent", spent.about(0, 0), FULL);
            due("spent, any k", spent.about(Integer.MAX_VALUE, 6), FULL);
            due("spent, k below 0", spent.about(-1, 0), BAD);
            due("spent, what", spent.about(0, 7), BAD);
            due("spent, what below 0", spent.about(0, -1), BAD);
        }
    }

    private static void letter() {
        ForgettingLines x = machine(2, "0?b01;0?c11");
        x.aim(1);
        wantAll(x, 0, "a");
        due("found", x.found(), 3);
        due("b", x.letter(1, 0, 0), 1);
        due("a", x.letter(1, 0, 1), 0);
        due("c", x.letter(2, 1, 0), 2);
        due("i 2", x.letter(1, 0, 2), BAD);
        due("k 3", x.letter(3, 0, 0), BAD);
        due("line 2", x.letter(1, 2, 0), BAD);
        for (int v : OUTSIDE) {
            due("k", x.letter(v, 0, 0), BAD);
            due("line", x.letter(1, v, 0), BAD);
            due("i", x.letter(1, 0, v), BAD);
        }
        x.want(0, 0);
        x.aim(0);
        due("k 1 of a search that finds less than the one before", x.letter(1, 0, 0), BAD);
        due("k 80 of 80", manyFound("aaaaaaaaa").letter(80, 0, 0), BAD);
        for (ForgettingLines spent : new ForgettingLines[] {tooLong(), tooMany()}) {
            due("spent", spent.letter(0, 0, 0), FULL);
            due("spent, any k and i", spent.letter(Integer.MAX_VALUE, 1, Integer.MAX_VALUE), FULL);
            due("spent, k below 0", spent.letter(-1, 0, 0), BAD);
            due("spent, i below 0", spent.letter(0, 0, -1), BAD);
            due("spent, line", spent.letter(0, 2, 0), BAD);
        }
    }

    private static void least() {
        due("too long", tooLong().least(), FULL);
        due("too many", tooMany().least(), FULL);
        due("aim alone", new ForgettingLines().least(), 1);
        ForgettingLines x = machine(2, "0?a01;0?b01;0-1");
        x.aim(1);
        due("found", x.found(), 4);
        due("least", x.least(), 2);
        int[] leasts = {1, 0, 0, 1};
        for (int k = 0; k < 4; k++) {
            due("whether " + k, x.about(k, 6), leasts[k]);
        }
    }

    private static void far() {
        due("too long", tooLong().far(), FULL);
        due("too many", tooMany().far(), FULL);
        ForgettingLines x = machine(4, "0!a00;0!b00;0-1;1?a02;2?b03");
        x.aim(3);
        due("from the start", x.far(), 5);
        x.go(1);
        due("b in front, which is lost", x.far(), 5);
        x.reset();
        x.go(0);
        due("a in front", x.far(), 4);
        x.reset();
        x.go(0);
        x.go(1);
        due("ab", x.far(), 3);
        x.go(2);
        due("one on", x.far(), 2);
        x.lose(0, 1);
        due("b is lost", x.far(), NONE);
        ForgettingLines there = machine(1, "0!a00;0!b10");
        due("there already", there.far(), 0);
        there.want(0, 0);
        due("one letter wanted", there.far(), 1);
        there.go(1);
        there.go(0);
        due("more than wanted", there.far(), 0);
        ForgettingLines order = machine(1, "0-0;0!a00;0!b00");
        order.go(1);
        order.go(2);
        wantAll(order, 0, "ab");
        due("the same order", order.far(), 0);
        order.aim(0);
        wantAll(order, 0, "ba");
        due("another order", order.far(), 1);
        order.unarc();
        order.unarc();
        due("that can't be sent", order.far(), NONE);
    }

    private static void way() {
        due("too long", tooLong().way(0), FULL);
        due("too many", tooMany().way(0), FULL);
        due("too many, below 0", tooMany().way(-1), BAD);
        ForgettingLines x = machine(4, "0!a00;0!b00;0-1;1?a02;2?b03");
        x.aim(3);
        int[] arcs = {0, 1, 2, 3, 4};
        for (int i = 0; i < 5; i++) {
            due("way(" + i + ")", x.way(i), arcs[i]);
        }
        due("behind the last", x.way(5), BAD);
        for (int v : OUTSIDE) {
            due("i", x.way(v), BAD);
        }
        x.go(2);
        due("none", x.way(0), NONE);
        due("none, whatever i", x.way(99), NONE);
        due("below 0 goes first", x.way(-1), BAD);
        x.aim(1);
        due("there already", x.way(0), BAD);
        ForgettingLines first = machine(3, "1-2;0-1;0!a01;0?c01");
        first.aim(2);
        due("of those of a round the first FOUND", first.way(0), 1);
        first.unarc();
        first.arc(0, 0, 0, 0, 2);
        due("the least round", first.way(0), 3);
        due("the least round's end", first.way(1), BAD);
    }

    private static void strict() {
        ForgettingLines x = machine(3, "0!a01;1!b00;0?b02;0?a02;2-1");
        due("l 4", x.strict(4), BAD);
        for (int v : OUTSIDE) {
            due("l", x.strict(v), BAD);
        }
        x.aim(2);
        due("no room", x.strict(0), NONE);
        due("room of 1", x.strict(1), NONE);
        due("room of 2", x.strict(2), 3);
        due("room of 3", x.strict(3), 3);
        x.want(0, 1);
        due("with a letter", x.strict(2), 3);
        due("aim has more", x.strict(0), NOT);
        x.want(1, 1);
        due("on the other line", x.strict(2), NONE);
        x.want(1, 1);
        due("aim has more on the other line", x.strict(1), NOT);
        x.aim(2);
        x.go(0);
        due("now has more", x.strict(0), NOT);
        due("bad goes first", x.strict(4), BAD);
        due("as many", x.strict(1), NONE);
        x.go(1);
        due("ab", x.strict(1), NOT);
        due("ab, room of 2", x.strict(2), 1);
        dueNow("now stays", x, 0, "ab", "");
        x.aim(0);
        due("there already", x.strict(2), 0);
        ForgettingLines order = machine(4, "0!a00;0!b00;0-1;1?b02;2?a03");
        order.go(0);
        order.go(1);
        order.go(2);
        order.aim(3);
        due("a row keeps order", order.strict(3), NONE);
        order.bag(0, true);
        order.go(0);
        order.go(1);
        order.go(2);
        order.aim(3);
        due("a bag does not", order.strict(3), 2);
        order.reset();
        due("from the start", order.strict(2), 5);
        due("in a bag of one", order.strict(1), NONE);
        ForgettingLines gone = machine(2, "0-0;0-1");
        gone.aim(1);
        due("by the latest arc", gone.strict(0), 1);
        gone.unarc();
        due("which goes", gone.strict(0), NONE);
        for (int arc = 1; arc < 20; arc++) {
            gone.arc(0, 0, 0, 0, arc / 19);
        }
        due("by the 20th arc", gone.strict(0), 1);
        strictEverywhere();
    }

    /** Every place of seven states, and then of eight, can be come to. */
    private static void strictEverywhere() {
        String all = "0!a00;0!b00;0!c00;0!a10;0!b10;0!c10;0?a00;0?b00;0?c00;0?a10;0?b10;0?c10";
        ForgettingLines x = machine(8, all + ";0-1;1-2;2-3;3-4;4-5;5-6;6-0");
        x.aim(7);
        due("but the eighth state can't", x.strict(3), NONE);
        x.arc(6, 0, 0, 0, 7);
        due("now it can", x.strict(0), 7);
        wantAll(x, 0, "cab");
        wantAll(x, 1, "bac");
        due("with three letters each", x.strict(3), 13);
        x.bag(0, true);
        x.bag(1, true);
        x.aim(7);
        wantAll(x, 0, "cab");
        wantAll(x, 1, "bac");
        due("with bags", x.strict(3), 13);
    }

    private static void sheet() {
        ForgettingLines x = new ForgettingLines();
        due("sheet 2", x.sheet(2, 0, 0), BAD);
        due("lane 2", x.sheet(0, 2, 0), BAD);
        due("n 61", x.sheet(0, 0, 61), BAD);
        due("n most", x.sheet(0, 0, Integer.MAX_VALUE), BAD);
        due("n -1", x.sheet(0, 0, -1), SIZE);
        due("n least", x.sheet(1, 1, Integer.MIN_VALUE), SIZE);
        for (int v : OUTSIDE) {
            due("sheet, n below 0", x.sheet(v, 0, -1), BAD);
            due("lane, n below 0", x.sheet(0, v, -1), BAD);
        }
        due("holds nothing", x.drop(0), NULL);
        due("n 0", x.sheet(0, 0, 0), 0);
        due("n 60", x.sheet(1, 1, 60), 60);
        x.item(1, 1, 4, 3);
        due("size", x.sheet(1, 0, -1), SIZE);
        due("bad", x.sheet(1, 0, 61), BAD);
        due("what it held stays", x.arcs(1, 1, 0, 1), 1);
        due("its item", x.told(0, 4), 3);
        due("new", x.sheet(1, 1, 5), 5);
        due("its items", x.arcs(1, 1, 0, 1), 2);
        due("are 0", x.told(1, 4), 0);
        due("another lane", x.sheet(1, 0, 6), 6);
        due("cast", x.arcs(1, 1, 0, 1), CAST);
        due("the other sheet stays", x.drop(0), 0);
        due("so many", x.drop(1), 6);
    }

    private static void drop() {
        ForgettingLines x = new ForgettingLines();
        due("sheet 2", x.drop(2), BAD);
        for (int v : OUTSIDE) {
            due("sheet", x.drop(v), BAD);
        }
        due("nothing", x.drop(1), NULL);
        x.sheet(0, 0, 60);
        x.sheet(1, 1, 0);
        due("60", x.drop(0), 60);
        due("nothing any more", x.drop(0), NULL);
        due("item", x.item(0, 0, 0, 0), NULL);
        due("arcs", x.arcs(0, 0, 0, 0), NULL);
        due("none, but held", x.drop(1), 0);
        due("nothing then", x.drop(1), NULL);
    }

    private static void item() {
        ForgettingLines x = new ForgettingLines();
        due("sheet 2", x.item(2, 0, 0, 0), BAD);
        due("lane 2", x.item(0, 2, 0, 0), BAD);
        for (int v : OUTSIDE) {
            due("sheet", x.item(v, 0, 0, 0), BAD);
            due("lane", x.item(0, v, 0, 0), BAD);
        }
        due("null", x.item(0, 0, -1, 0), NULL);
        x.sheet(0, 0, 5);
        x.sheet(1, 1, 5);
        due("bytes are not ints", x.item(0, 1, -1, 0), CAST);
        due("ints are not bytes", x.item(1, 0, 9, 0), CAST);
        for (int v : OUTSIDE) {
            due("index", x.item(0, 0, v, 0), INDEX);
        }
        due("index 5", x.item(0, 0, 5, 0), INDEX);
        due("the last", x.item(0, 0, 4, 0x7fffff03), 1);
        due("the lowest bits of a byte", x.arcs(0, 0, 0, 1), 1);
        due("are 3", x.told(0, 4), 3);
        due("an int", x.item(1, 1, 4, 0x7fffff03), 1);
        due("has all bits", x.arcs(1, 1, 0, 1), NOT);
        due("an int of 2", x.item(1, 1, 4, 2), 1);
        due("two", x.arcs(1, 1, 0, 1), 2);
        due("is 2", x.told(1, 4), 2);
        x.sheet(0, 0, 0);
        due("no items", x.item(0, 0, 0, 0), INDEX);
    }
}
