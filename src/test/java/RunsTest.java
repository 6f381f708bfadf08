import java.util.ArrayList;
import java.util.List;

/**
 * Each promise in a run of many calls on one object: what its call changed is seen by the calls behind it, and what it
 * tells is another thing when other calls have changed something. The answers are worked out by hand from the document.
 */
public final class RunsTest {
    private static final String AS_AT_FIRST = "found() = 1  FOUND 0 = 0 . . round 0 by -2 of -2 least";

    public static void main(String[] args) throws ReflectiveOperationException {
        List<String> promises = new ArrayList<>();
        for (int number = 1; number <= 25; number++) {
            promises.add("promise" + number);
        }
        Suite.run(RunsTest.class, promises);
    }

    private static String times(int many, String step) {
        return (step + "\n").repeat(many);
    }

    // ---- the machine

    static void promise1_aNewObjectIsUsedAtOnce() throws ReflectiveOperationException {
        Play.run("""
            NOW = 0 . .  ARCS = 0  far() = 0  way(0) = BAD  strict(0) = 0  least() = 1  about(1, 0) = BAD
            """, AS_AT_FIRST, """
            go(0) = BAD  lose(0, 0) = BAD  lose(1, 0) = BAD  unarc() = NOT  told(0, 0) = BAD  read() = -20
            arcs(0, 0, 0, 0) = NULL  arcs(1, 1, 0, 0) = NULL  item(0, 0, 0, 0) = NULL  drop(0) = NULL  drop(1) = NULL
            aim(4) = BAD  aim(3) = 1  far() = NONE  way(0) = NONE  strict(3) = NONE
            found() = 1  FOUND 0 = 3 . . round 0 by -2 of -2 least
            arc(3, 0, 0, 0, 4) = BAD  arc(3, 1, 0, 1, 0) = 0  found() = 1
            arc(0, 1, 0, 2, 3) = 1  found() = 2  FOUND 1 = 0 . . round 1 by 1 of 0 least  WAY = 1
            go(1) = 3  NOW = 3 c .  far() = 0
            go(0) = 0  NOW = 0 cb .  WAY = 1
            go(1) = 3  NOW = 3 cbc .  lose(0, 1) = 1  NOW = 3 cc .
            bag(0, false) = 0  bag(1, false) = 0  states(4) = 4
            """);
    }

    static void promise2_allButBagsTheTapeAndSheetsIsAsAtFirst() throws ReflectiveOperationException {
        Play.run("""
            arc(0, 1, 0, 0, 3) = 0  arc(3, 2, 0, 0, 1) = 1  aim(1) = 1  want(1, 2) = 1  go(0) = 3
            TEXT 0-5 = 3  sheet(1, 1, 5) = 5  item(1, 1, 0, 7) = 1  item(1, 1, 4, 7) = 1  arcs(1, 1, 0, 1) = NOT
            found() = 3  FOUND 1 = 3 a c round 1 by 1 of 0 least  FOUND 2 = 0 . c round 2 by 0 of 1 least
            states(0) = BAD  states(9) = BAD  NOW = 3 a .  found() = 3  ARCS = 2
            states(8) = 4  ARCS = 0  NOW = 0 . .  unarc() = NOT  go(0) = BAD  far() = 0
            """, AS_AT_FIRST, """
            read() = 1  ARC 0 = 0 0 0 0 5  arcs(1, 1, 0, 1) = 2  ARC 1 = 7 0 0 0 7
            aim(7) = 1  found() = 1  far() = NONE  aim(5) = 1  found() = 2  WAY = 0  go(0) = 5  far() = 0
            states(6) = 8  NOW = 0 . .  ARCS = 0
            TEXT 0-5 = 3  read() = 1  TEXT 0-6 = 3  read() = -22  ARCS = 1  ARC 0 = 0 0 0 0 5
            aim(6) = BAD  aim(5) = 1  WAY = 0  arcs(1, 1, 0, 1) = NOT
            arc(5, 0, 0, 0, 6) = BAD  arc(6, 0, 0, 0, 5) = BAD  arc(5, 0, 9, 9, 4) = 1
            states(6) = 6  ARCS = 0
            """, AS_AT_FIRST, """
            states(1) = 6  aim(1) = BAD  aim(0) = 1  arc(0, 0, 0, 0, 1) = BAD  arc(0, 1, 1, 1, 0) = 0
            go(0) = 0  go(0) = 0  NOW = 0 . bb  want(1, 1) = 1  found() = 2  least() = 1
            FOUND 0 = 0 . b round 0 by -2 of -2  FOUND 1 = 0 . . round 1 by 0 of 0 least
            states(1) = 1  NOW = 0 . .
            """, AS_AT_FIRST);
    }

    static void promise3_aLineIsARowThenABagThenARow() throws ReflectiveOperationException {
        Play.run("""
            TEXT 0!c00;0!a00;0!b00;0?b00;0?c00 = 29  read() = 5
            go(0) = 0  go(1) = 0  go(2) = 0  NOW = 0 cab .  go(3) = NOT  go(4) = 0  NOW = 0 ab .
            want(0, 2) = 1  want(0, 0) = 2  letter(0, 0, 0) = 2  letter(0, 0, 1) = 0
            bag(0, true) = 0  NOW = 0 . .  ARCS = 5
            """, AS_AT_FIRST, """
            go(0) = 0  go(1) = 0  go(2) = 0  NOW = 0 abc .  go(3) = 0  NOW = 0 ac .  lose(0, 0) = 0  NOW = 0 c .
            want(0, 2) = 1  want(0, 0) = 2  found() = 4  least() = 1
            FOUND 0 = 0 ac . round 0 by -2 of -2
            FOUND 1 = 0 a . round 1 by 0 of 0
            FOUND 2 = 0 c . round 1 by 1 of 0
            FOUND 3 = 0 . . round 2 by 1 of 1 least
            WAY = 1  strict(2) = 1  strict(1) = NOT
            bag(1, true) = 0  NOW = 0 . .
            """, AS_AT_FIRST, """
            go(0) = 0  go(1) = 0  NOW = 0 ac .  bag(0, true) = 1  NOW = 0 . .
            want(0, 1) = 1  bag(2, true) = BAD  bag(-1, false) = BAD  go(2) = 0  NOW = 0 b .  letter(0, 0, 0) = 1  far() = 0
            bag(0, false) = 1  NOW = 0 . .  about(0, 2) = 0
            go(0) = 0  go(1) = 0  NOW = 0 ca .
            want(0, 2) = 1  want(0, 0) = 2  letter(0, 0, 0) = 2  letter(0, 0, 1) = 0  far() = 0
            bag(1, false) = 1  bag(1, false) = 0
            """);
    }

    static void promise4_arcByArcTheAimIsComeTo() throws ReflectiveOperationException {
        Play.run("""
            aim(3) = 1  far() = NONE
            arc(2, 2, 0, 1, 3) = 0  found() = 2  FOUND 1 = 2 b . round 1 by 0 of 0 least  far() = NONE
            arc(1, 1, 0, 1, 2) = 1  found() = 3  FOUND 2 = 1 . . round 2 by 1 of 1 least  far() = NONE  strict(3) = NONE
            arc(0, 0, 0, 0, 1) = 2  found() = 4  FOUND 3 = 0 . . round 3 by 2 of 2 least
            WAY = 2 1 0  strict(1) = 3  strict(0) = NONE
            go(2) = 1  WAY = 1 0  arc(0, 3, 0, 0, 1) = BAD  NOW = 1 . .
            arc(0, 0, 0, 0, 3) = 3  NOW = 0 . .  found() = 4  FOUND 1 = 2 b . round 1 by 0 of 0 least
            FOUND 2 = 0 . . round 1 by 3 of 0 least  FOUND 3 = 1 . . round 2 by 1 of 1 least  WAY = 3  strict(0) = 1
            arc(3, 1, 1, 0, 3) = 4  arc(3, 1, 1, 1, 3) = 5  arc(3, 1, 1, 2, 3) = 6  arc(3, 2, 1, 0, 3) = 7
            arc(3, 2, 1, 1, 3) = 8  arc(3, 2, 1, 2, 3) = 9  arc(3, 1, 0, 0, 3) = 10  arc(3, 1, 0, 1, 3) = 11
            arc(3, 1, 0, 2, 3) = 12  arc(3, 2, 0, 0, 3) = 13  arc(3, 2, 0, 1, 3) = 14  arc(3, 2, 0, 2, 3) = 15
            arc(3, 0, 0, 0, 3) = 16  arc(3, 0, 0, 0, 2) = 17  arc(3, 0, 0, 0, 1) = 18  arc(3, 0, 0, 0, 0) = 19
            go(3) = 3  go(4) = 3  go(12) = 3  NOW = 3 c a
            arc(0, 0, 0, 0, 0) = FULL  arc(4, 0, 0, 0, 0) = BAD  NOW = 3 c a  ARCS = 20
            go(7) = 3  go(15) = 3  go(19) = 0  NOW = 0 . .
            go(3) = 3  unarc() = 19  NOW = 0 . .  arc(3, 2, 1, 2, 0) = 19  ARC 19 = 3 2 1 2 0
            go(3) = 3  go(19) = NOT  go(6) = 3  go(19) = 0
            """);
    }

    static void promise5_arcByArcTheyGo() throws ReflectiveOperationException {
        Play.run("""
            TEXT 0-1;1-2;2-3;0-3 = 15  read() = 4  aim(3) = 1  found() = 4  WAY = 3  go(3) = 3  far() = 0
            unarc() = 3  NOW = 0 . .  ARCS = 3  go(3) = BAD  told(3, 0) = BAD
            found() = 4  FOUND 3 = 0 . . round 3 by 0 of 2 least  WAY = 0 1 2  strict(0) = 3
            unarc() = 2  found() = 1  far() = NONE  way(0) = NONE  strict(0) = NONE
            FOUND 0 = 3 . . round 0 by -2 of -2 least
            arc(1, 1, 1, 2, 3) = 2  found() = 3  WAY = 0 2  strict(0) = NONE  strict(1) = 2
            unarc() = 2  unarc() = 1  unarc() = 0  ARCS = 0  unarc() = NOT  unarc() = NOT
            FOUND 0 = 3 . . round 0 by -2 of -2 least
            arc(0, 0, 0, 0, 3) = 0  WAY = 0  go(0) = 3  unarc() = 0  NOW = 0 . .
            """);
    }

    static void promise6_arcsThatCameByArcByReadAndByArcs() throws ReflectiveOperationException {
        Play.run("""
            arc(1, 2, 1, 2, 3) = 0  ARC 0 = 1 2 1 2 3  arc(3, 0, 1, 2, 0) = 1  ARC 1 = 3 0 0 0 0
            told(2, 0) = BAD  told(-1, 0) = BAD  told(0, 5) = BAD  told(0, -1) = BAD
            TEXT 2!b10 = 5  ARC 0 = 1 2 1 2 3  read() = 1  ARC 0 = 2 1 1 1 0  told(1, 0) = BAD
            sheet(0, 0, 10) = 10  item(0, 0, 0, 3) = 1  item(0, 0, 2, 1) = 1  item(0, 0, 3, 2) = 1  item(0, 0, 4, 2) = 1
            arcs(0, 0, 0, 2) = 3  ARC 0 = 2 1 1 1 0  ARC 1 = 3 0 0 0 2  ARC 2 = 0 0 0 0 0
            item(0, 0, 4, 1) = 1  drop(0) = 10  ARC 1 = 3 0 0 0 2
            unarc() = 2  told(2, 4) = BAD  ARC 1 = 3 0 0 0 2
            bag(1, true) = 0  aim(2) = 1  want(0, 1) = 1  go(0) = NOT  reset() = 1  ARC 0 = 2 1 1 1 0  ARC 1 = 3 0 0 0 2
            TEXT ;; = 2  read() = -20  ARC 0 = 2 1 1 1 0  arc(1, 1, 0, 0, 1) = 2  ARC 2 = 1 1 0 0 1
            states(4) = 4  told(0, 0) = BAD
            """);
    }

    static void promise7_theTapeGrowsUntilItIsReadOrFull() throws ReflectiveOperationException {
        Play.run("""
            type(48, 1) = 1  type(0x2D31, 2) = 3  read() = 1  ARC 0 = 0 0 0 0 1
            aim(1) = 1  want(1, 0) = 1  go(0) = 1
            type(0x3B, 1) = 1  type(0x7F, 1) = BAD  type(0x1F, 1) = BAD  type(0x20, 0) = BAD  type(0x20, 9) = BAD
            type(0x3020303030303030, 8) = 9  read() = -20  type(0x3A303F613033, 5) = 5  read() = 1  ARC 0 = 0 2 0 0 3
            go(0) = NOT  arc(0, 1, 0, 0, 0) = 1  go(1) = 0  go(1) = 0  go(0) = 3
            """, times(15, "TEXT 0!c11;0- = 8  read() = -28"), """
            NOW = 3 a .  found() = 1  FOUND 0 = 1 . a round 0 by -2 of -2 least  ARCS = 2
            type(0x303132, 3) = 3
            """, counted(11, 123, 8), """
            type(0x2020202020202020, 8) = FULL  type(0x20202020202020, 7) = 130  type(0x20, 1) = FULL  type(0x1F, 1) = BAD
            NOW = 3 a .  read() = -21  type(0x20, 1) = 1  read() = -21  read() = -20  NOW = 3 a .  ARCS = 2
            """);
    }

    /** Eight blanks are typed again and again, while the tape comes from a size to another one. */
    private static String counted(int from, int to, int step) {
        StringBuilder steps = new StringBuilder();
        for (int size = from; size <= to; size += step) {
            steps.append("type(0x2020202020202020, 8) = ").append(size).append('\n');
        }
        return steps.toString();
    }

    static void promise8_textsAreReadOneBehindTheOther() throws ReflectiveOperationException {
        Play.run("""
            aim(2) = 1  want(0, 1) = 1  TEXT 0!b02;0!a01 = 11  ARCS = 0  read() = 2
            found() = 2  FOUND 1 = 0 . . round 1 by 0 of 0 least  WAY = 0  go(0) = 2  far() = 0
            TEXT 0!b02;0!a0 = 10  read() = -30  NOW = 2 b .  ARCS = 2  read() = -20  NOW = 2 b .  found() = 2
            TEXT 0 ! b 0 2;1-0;; = 15  read() = -34  ARC 0 = 0 1 0 1 2  ARC 1 = 0 1 0 0 1  NOW = 2 b .  far() = 0
            TEXT 1 ?c1 1 = 7  read() = 1  ARCS = 1  ARC 0 = 1 2 1 2 1  NOW = 0 . .
            found() = 1  FOUND 0 = 2 b . round 0 by -2 of -2 least  far() = NONE
            TEXT 1 = 1  TEXT -2 = 3  TEXT ;0-1 = 7  read() = 2  ARC 0 = 1 0 0 0 2  ARC 1 = 0 0 0 0 1
            found() = 3  FOUND 2 = 0 b . round 2 by 1 of 1 least  far() = NONE  strict(3) = NONE
            aim(2) = 1  WAY = 1 0  go(1) = 1  WAY = 0
            TEXT 0-4 = 3  read() = -22  states(5) = 4  TEXT 0-4 = 3  read() = 1  aim(4) = 1  WAY = 0
            """, "TEXT " + "1-0;".repeat(20) + "1-0 = 83", "read() = -99  ARCS = 1  WAY = 0",
            "TEXT " + "1-0;".repeat(19) + "1-0 = 79", "read() = 20  ARCS = 20  arc(0, 0, 0, 0, 4) = FULL  far() = NONE",
            "unarc() = 19  arc(0, 0, 0, 0, 4) = 19  WAY = 19  TEXT 0-0 = 3  read() = 1  ARCS = 1  far() = NONE");
    }

    static void promise9_arcsComeFromASheetThatIsChanged() throws ReflectiveOperationException {
        Play.run("""
            sheet(0, 0, 12) = 12  item(0, 0, 2, 1) = 1  item(0, 0, 4, 2) = 1  item(0, 0, 5, 1) = 1
            item(0, 0, 6, 1) = 1  item(0, 0, 7, 2) = 1  item(0, 0, 9, 2) = 1  item(0, 0, 10, 2) = 1
            arcs(0, 0, 1, 2) = 2  ARC 0 = 0 1 0 2 1  ARC 1 = 1 2 0 2 2  aim(2) = 1  WAY = 0 1  go(0) = 1
            arcs(0, 0, 3, 2) = INDEX  arcs(0, 0, -1, 1) = INDEX  arcs(0, 0, 13, 0) = INDEX  arcs(0, 1, 1, 1) = CAST
            arcs(1, 0, 1, 1) = NULL  arcs(2, 0, 1, 1) = BAD  arcs(0, 2, 1, 1) = BAD  arcs(0, 0, 1, 13) = BAD  arcs(0, 0, 1, -1) = BAD
            NOW = 1 c .  ARCS = 2
            arcs(0, 0, 2, 2) = 4  ARC 2 = 1 0 0 0 1  ARC 3 = 2 0 0 0 0  NOW = 0 . .
            go(0) = 1  go(1) = 2  go(3) = 0  go(0) = 1
            item(0, 0, 5, 4) = 1  arcs(0, 0, 1, 2) = NOT  NOW = 1 c .  ARCS = 4  item(0, 0, 5, 260) = 1  arcs(0, 0, 1, 2) = NOT
            item(0, 0, 5, 257) = 1  arcs(0, 0, 1, 2) = 6  NOW = 0 . .  ARC 4 = 0 1 0 2 1  ARC 5 = 1 2 0 2 2
            arcs(0, 0, 6, 1) = 7  ARC 6 = 1 2 0 2 2  go(0) = 1  arcs(0, 0, 12, 0) = 7  NOW = 0 . .
            arcs(0, 0, 1, 2) = 9  arcs(0, 0, 1, 2) = 11  arcs(0, 0, 1, 2) = 13  arcs(0, 0, 1, 2) = 15  arcs(0, 0, 1, 2) = 17
            arcs(0, 0, 1, 2) = 19  go(0) = 1  arcs(0, 0, 1, 2) = FULL  NOW = 1 c .  arcs(0, 0, 0, 1) = 20  ARC 19 = 0 0 0 0 2
            arcs(0, 0, 1, 1) = FULL  item(0, 0, 2, 3) = 1  arcs(0, 0, 1, 1) = NOT  arcs(0, 0, 1, 0) = 20
            WAY = 19  drop(0) = 12  arcs(0, 0, 1, 0) = NULL  ARCS = 20  WAY = 19  unarc() = 19  WAY = 0 1
            """);
    }

    // ---- now

    static void promise10_arcsAreDoneOneBehindTheOther() throws ReflectiveOperationException {
        Play.run("""
            TEXT 0!a00;0!b00;0?a01;1?b00;1-0 = 27  read() = 5  go(2) = NOT
            go(0) = 0  go(1) = 0  go(0) = 0  NOW = 0 aba .  go(3) = NOT  go(4) = NOT
            go(2) = 1  NOW = 1 ba .  go(2) = NOT  go(0) = NOT  go(3) = 0  NOW = 0 a .
            go(2) = 1  NOW = 1 . .  go(3) = NOT  go(4) = 0  NOW = 0 . .
            """, times(10, "go(0) = 0"), """
            NOW = 0 aaaaaaaaaa .  go(0) = FULL  go(1) = FULL  go(5) = BAD  go(-1) = BAD  go(3) = NOT
            go(2) = 1  go(1) = NOT  NOW = 1 aaaaaaaaa .  go(4) = 0  go(1) = 0  NOW = 0 aaaaaaaaab .  go(1) = FULL
            aim(1) = 1  found() = 3  FOUND 1 = 0 a . round 1 by 2 of 0  FOUND 2 = 0 . . round 2 by 0 of 1 least
            WAY = 2  go(2) = 1  far() = 0  go(4) = 0  far() = 1
            bag(0, true) = 0  go(0) = 0  go(1) = 0  go(0) = 0  NOW = 0 aab .
            go(2) = 1  go(3) = 0  NOW = 0 a .  go(2) = 1  go(3) = NOT  NOW = 1 . .
            """);
    }

    static void promise11_whatIsLostIsMissedLater() throws ReflectiveOperationException {
        Play.run("""
            TEXT 0!a00;0!b00;0!c10;0?b01 = 23  read() = 4  aim(1) = 1
            found() = 3  FOUND 1 = 0 b . round 1 by 3 of 0  FOUND 2 = 0 . . round 2 by 1 of 1 least
            go(0) = 0  go(1) = 0  go(0) = 0  go(2) = 0  NOW = 0 aba c  WAY = 3  go(3) = NOT
            lose(0, 3) = BAD  lose(1, 1) = BAD  lose(2, 0) = BAD  lose(0, -1) = BAD  NOW = 0 aba c
            lose(0, 1) = 1  NOW = 0 aa c  WAY = 1 3  lose(0, 2) = BAD  lose(0, 1) = 0  lose(1, 0) = 2  lose(1, 0) = BAD
            NOW = 0 a .  strict(3) = NONE  far() = 2  lose(0, 0) = 0  NOW = 0 . .  strict(1) = 2
            go(0) = 0  go(1) = 0  WAY = 3  go(3) = NOT  lose(0, 0) = 0  go(3) = 1  NOW = 1 . .  far() = 0
            unarc() = 3  go(1) = 0  far() = NONE  bag(0, true) = 0  go(1) = 0  go(0) = 0  go(1) = 0  NOW = 0 abb .
            lose(0, 0) = 0  lose(0, 1) = 1  NOW = 0 b .  lose(0, 0) = 1  lose(0, 0) = BAD  NOW = 0 . .
            """, times(10, "go(2) = 0"), """
            go(2) = FULL  lose(1, 9) = 2  lose(1, 9) = BAD  go(2) = 0  go(2) = FULL  lose(1, 0) = 2  NOW = 0 . ccccccccc
            """);
    }

    static void promise12_nowIsToldBehindEachChange() throws ReflectiveOperationException {
        Play.run("""
            TEXT 0!a00;0!c10;0-3;3?a02 = 21  read() = 4
            now(0, -1) = 0  now(1, -1) = 0  now(0, -2) = 0  now(7, -2) = 0  now(0, 0) = BAD  now(1, 0) = BAD
            go(0) = 0  now(0, -1) = 1  now(0, 0) = 0  now(0, 1) = BAD  now(1, -1) = 0
            go(1) = 0  go(1) = 0  now(1, -1) = 2  now(1, 0) = 2  now(1, 1) = 2  now(1, 2) = BAD  now(0, -1) = 1
            go(2) = 3  now(-5, -2) = 3  now(2, -1) = BAD  now(2, 0) = BAD  now(-1, 0) = BAD  now(0, -3) = BAD
            go(3) = 2  now(0, -1) = 0  now(0, 0) = BAD  now(0, -2) = 2  go(3) = NOT  now(0, -2) = 2
            lose(1, 1) = 2  now(1, -1) = 1  now(1, 1) = BAD  now(1, 0) = 2
            aim(3) = 1  want(0, 1) = 1  found() = 2  far() = NONE  now(0, -2) = 2  now(0, -1) = 0  now(1, 0) = 2
            TEXT 0-0 = 3  sheet(0, 0, 5) = 5  now(0, -2) = 2  arcs(0, 0, 0, 1) = 5  now(0, -2) = 0  now(1, -1) = 0
            go(1) = 0  now(1, -1) = 1  read() = 1  now(1, -1) = 0  now(1, 0) = BAD
            """);
    }

    static void promise13_nowAloneIsPutBack() throws ReflectiveOperationException {
        Play.run("""
            TEXT 0!b11;1!b11 = 11  read() = 2  aim(1) = 1  want(1, 1) = 1  want(1, 1) = 2  reset() = 1
            found() = 5  least() = 2  WAY = 0 1  strict(2) = 2  TEXT 0- = 2  sheet(0, 1, 3) = 3
            go(0) = 1  WAY = 1  go(1) = 1  go(1) = 1  NOW = 1 . bbb  far() = 0
            reset() = 1  NOW = 0 . .  ARCS = 2  found() = 5  least() = 2  WAY = 0 1  strict(2) = 2
            FOUND 0 = 1 . bb round 0 by -2 of -2
            FOUND 1 = 0 . b round 1 by 0 of 0
            FOUND 2 = 1 . b round 1 by 1 of 0
            FOUND 3 = 0 . . round 2 by 0 of 2 least
            FOUND 4 = 1 . . round 2 by 1 of 2 least
            item(0, 1, 2, 5) = 1  drop(0) = 3  TEXT 1 = 3  read() = 1  ARC 0 = 0 0 0 0 1  reset() = 1
            go(0) = 1  reset() = 1  reset() = 1  go(0) = 1
            """);
    }

    // ---- the aim

    static void promise14_oneAimBehindTheOther() throws ReflectiveOperationException {
        Play.run("""
            TEXT 0-1;1-2;2-3;3-0 = 15  read() = 4  far() = 0
            aim(1) = 1  WAY = 0  aim(2) = 1  WAY = 0 1  aim(3) = 1  WAY = 0 1 2  aim(4) = BAD  aim(-1) = BAD  WAY = 0 1 2
            want(0, 0) = 1  far() = NONE  aim(4) = BAD  far() = NONE  strict(1) = NONE  aim(3) = 1  WAY = 0 1 2  strict(0) = 3
            go(0) = 1  WAY = 1 2  aim(0) = 1  WAY = 1 2 3  NOW = 1 . .  strict(0) = 3
            found() = 4  FOUND 0 = 0 . . round 0 by -2 of -2 least  FOUND 3 = 1 . . round 3 by 1 of 2 least
            unarc() = 3  found() = 1  aim(3) = 1  found() = 4  aim(2) = 1  found() = 3  aim(1) = 1  found() = 2  aim(0) = 1  found() = 1
            states(2) = 4  aim(2) = BAD  aim(1) = 1  far() = NONE  states(8) = 2  aim(7) = 1  about(0, 0) = 7  aim(8) = BAD  about(0, 0) = 7
            """);
    }

    static void promise15_theAimWantsMoreAndMore() throws ReflectiveOperationException {
        Play.run("""
            TEXT 0!a00;0!b00 = 11  read() = 2  far() = 0
            want(0, 0) = 1  found() = 2  WAY = 0  want(0, 1) = 2  found() = 3  WAY = 0 1
            want(0, 1) = 3  found() = 4  WAY = 0 1 1  strict(3) = 3  strict(2) = NOT
            go(0) = 0  WAY = 1 1  want(1, 2) = 1  found() = 4  far() = NONE  strict(3) = NONE  NOW = 0 a .
            FOUND 0 = 0 abb c round 0 by -2 of -2  FOUND 3 = 0 . c round 3 by 0 of 2 least
            bag(0, true) = 0  want(0, 1) = 1  want(0, 0) = 2  found() = 4
            FOUND 0 = 0 ab . round 0 by -2 of -2
            FOUND 1 = 0 b . round 1 by 0 of 0
            FOUND 2 = 0 a . round 1 by 1 of 0
            FOUND 3 = 0 . . round 2 by 1 of 1 least
            WAY = 1 0  go(1) = 0  WAY = 0  want(0, 3) = BAD  want(2, 0) = BAD  want(0, -1) = BAD  want(-1, 0) = BAD  WAY = 0
            want(0, 2) = 3  want(0, 2) = 4  want(0, 2) = 5  want(0, 2) = 6  want(0, 0) = 7  want(0, 2) = 8  want(0, 1) = 9
            want(0, 2) = 10  want(0, 0) = FULL  want(0, 3) = BAD  letter(0, 0, 10) = BAD  want(1, 0) = 1  want(0, 1) = FULL
            FOUND 0 = 0 aabbcccccc a round 0 by -2 of -2  far() = NONE  found() = 9  least() = 1
            aim(0) = 1  found() = 1  want(0, 2) = 1  found() = 1  letter(0, 0, 0) = 2
            """);
    }

    /** Eight states in a ring and a letter sent once a round: there are eight places more for each letter wanted. */
    private static final String RING = "states(8) = 4\nTEXT 1-0;2-1;3-2;4-3;5-4;6-5;7-6;0!a07 = 33\nread() = 8\n";

    static void promise16_moreAndMoreAreFoundUntilItIsSpent() throws ReflectiveOperationException {
        Play.run(RING, """
            found() = 8  least() = 8  want(0, 0) = 1  found() = 16  least() = 8  WAY = 7 6 5 4 3 2 1 0
            want(0, 0) = 2  found() = 24  far() = 16  want(0, 0) = 3  found() = 32  far() = 24  go(7) = 7  far() = 23
            want(0, 0) = 4  found() = 40  want(0, 0) = 5  found() = 48  want(0, 0) = 6  found() = 56  want(0, 0) = 7  found() = 64
            want(0, 0) = 8  found() = 72  far() = 63  want(0, 0) = 9  found() = 80  least() = 8  far() = 71
            want(0, 0) = 10  found() = FULL  least() = FULL  far() = FULL  way(0) = FULL  about(0, 0) = FULL  letter(0, 0, 0) = FULL
            want(0, 0) = FULL  found() = FULL  go(6) = 6  reset() = 1  found() = FULL  strict(3) = NOT
            unarc() = 7  found() = 8  far() = NONE  about(7, 2) = 10  arc(0, 1, 0, 0, 7) = 7  found() = FULL
            aim(0) = 1  found() = 8  arc(0, 2, 1, 1, 0) = 8  found() = 8
            TEXT 1?b00 = 5  read() = 1  found() = 2  FOUND 1 = 1 b . round 1 by 0 of 0 least
            """, wants("aaaaaaaaa"), """
            found() = 2  FOUND 1 = 1 baaaaaaaaa . round 1 by 0 of 0 least  want(0, 0) = 10  found() = FULL
            arc(0, 1, 0, 0, 0) = 1  found() = FULL  TEXT 0!a00;1?b00 = 11  read() = 2  found() = FULL
            TEXT 1-0;1?b00 = 9  read() = 2  found() = 2  states(8) = 8  found() = 1
            """);
    }

    private static String wants(String letters) {
        StringBuilder steps = new StringBuilder();
        for (int i = 0; i < letters.length(); i++) {
            steps.append("want(0, ").append(letters.charAt(i) - 'a').append(") = ").append(i + 1).append('\n');
        }
        return steps.toString();
    }

    static void promise17_whatIsToldOfThoseFoundWhenTheMachineChanges() throws ReflectiveOperationException {
        Play.run("""
            TEXT 1?a00;1?a10;1-0;2?b01;2?c01 = 27  read() = 5  found() = 10  least() = 4
            FOUND 0 = 0 . . round 0 by -2 of -2 least
            FOUND 1 = 1 a . round 1 by 0 of 0
            FOUND 2 = 1 . a round 1 by 1 of 0
            FOUND 3 = 1 . . round 1 by 2 of 0 least
            FOUND 4 = 2 ba . round 2 by 3 of 1
            FOUND 5 = 2 ca . round 2 by 4 of 1
            FOUND 6 = 2 b a round 2 by 3 of 2
            FOUND 7 = 2 c a round 2 by 4 of 2
            FOUND 8 = 2 b . round 2 by 3 of 3 least
            FOUND 9 = 2 c . round 2 by 4 of 3 least
            about(10, 0) = BAD  about(-1, 0) = BAD  about(0, 7) = BAD  about(0, -1) = BAD
            unarc() = 4  found() = 7  least() = 3  about(7, 0) = BAD
            FOUND 4 = 2 ba . round 2 by 3 of 1
            FOUND 5 = 2 b a round 2 by 3 of 2
            FOUND 6 = 2 b . round 2 by 3 of 3 least
            arc(3, 1, 1, 0, 1) = 4  found() = 9  least() = 4
            FOUND 5 = 3 a . round 2 by 4 of 1
            FOUND 7 = 3 . . round 2 by 4 of 2 least
            FOUND 8 = 2 b . round 2 by 3 of 3 least
            """);
    }

    static void promise18_lettersOfThoseFoundWhenALineBecomesABag() throws ReflectiveOperationException {
        Play.run("""
            TEXT 1?b00;2?c01;3?a12 = 17  read() = 3  want(0, 0) = 1  want(1, 2) = 1  found() = 4
            letter(0, 0, 0) = 0  letter(0, 1, 0) = 2  letter(0, 0, 1) = BAD  letter(0, 1, 1) = BAD
            letter(1, 0, 0) = 1  letter(1, 0, 1) = 0  letter(1, 0, 2) = BAD
            letter(2, 0, 0) = 2  letter(2, 0, 1) = 1  letter(2, 0, 2) = 0  letter(2, 0, 3) = BAD  letter(2, 1, 0) = 2
            letter(3, 1, 0) = 0  letter(3, 1, 1) = 2  letter(3, 1, 2) = BAD  letter(4, 0, 0) = BAD
            letter(-1, 0, 0) = BAD  letter(0, 0, -1) = BAD  letter(0, 2, 0) = BAD  letter(0, -1, 0) = BAD
            bag(0, true) = 0  found() = 4  letter(0, 0, 0) = BAD  letter(3, 0, 0) = 1  letter(3, 0, 1) = 2  letter(3, 1, 0) = 0
            want(0, 0) = 1  want(1, 2) = 1
            FOUND 0 = 0 a c round 0 by -2 of -2 least
            FOUND 1 = 1 ab c round 1 by 0 of 0 least
            FOUND 2 = 2 abc c round 2 by 1 of 1 least
            FOUND 3 = 3 abc ac round 3 by 2 of 2 least
            bag(1, true) = 0  want(0, 2) = 1  want(0, 1) = 2  want(1, 1) = 1
            FOUND 3 = 3 bbcc ab round 3 by 2 of 2 least
            unarc() = 2  letter(3, 0, 0) = BAD  letter(2, 0, 3) = 2  letter(2, 0, 4) = BAD  letter(2, 1, 0) = 1
            """);
    }

    static void promise19_fewerAreLeastThanFound() throws ReflectiveOperationException {
        Play.run("""
            least() = 1  TEXT 0!a00;0!b10 = 11  read() = 2  least() = 1  found() = 1
            want(0, 0) = 1  found() = 2  least() = 1  want(1, 1) = 1  found() = 4  least() = 1
            want(1, 0) = 2  found() = 2  least() = 1
            FOUND 0 = 0 a ba round 0 by -2 of -2  FOUND 1 = 0 . ba round 1 by 0 of 0 least
            arc(1, 0, 0, 0, 0) = 2  found() = 4  least() = 2
            FOUND 2 = 1 a ba round 1 by 2 of 0  FOUND 3 = 1 . ba round 2 by 2 of 1 least
            arc(0, 1, 1, 0, 0) = 3  found() = 12  least() = 2
            aim(1) = 1  found() = 1  least() = 1  unarc() = 3  unarc() = 2  least() = 1  aim(0) = 1  want(0, 1) = 1  least() = 1
            TEXT 1?a00;1?b00;1?c00;1?a10 = 23  read() = 4  found() = 5  least() = 5  aim(0) = 1  found() = 5  least() = 5
            arc(1, 0, 0, 0, 0) = 4  found() = 6  least() = 2  FOUND 5 = 1 . . round 1 by 4 of 0 least
            """, wants("aaaaaaaaaa"), """
            least() = FULL  aim(0) = 1  least() = 2  unarc() = 4  least() = 5  unarc() = 3  least() = 4
            """);
    }

    /** Of two that are found in one round, and are both below now, the first found has the way. */
    private static final String TWO_WAYS = """
        TEXT 0!b00;0!a00;0?a01;0?b01 = 23  read() = 4  aim(1) = 1  found() = 4
        FOUND 1 = 0 a . round 1 by 2 of 0
        FOUND 2 = 0 b . round 1 by 3 of 0
        FOUND 3 = 0 . . round 2 by 1 of 1 least
        """;

    static void promise20_farChangesWithNowAndTheAim() throws ReflectiveOperationException {
        Play.run(TWO_WAYS, """
            far() = 2  go(0) = 0  far() = 1  lose(0, 0) = 1  far() = 2  go(1) = 0  far() = 1  go(2) = 1  far() = 0
            want(0, 1) = 1  far() = NONE  reset() = 1  far() = 3  go(1) = 0  far() = 2  go(0) = 0  far() = 1  go(2) = 1  far() = 0
            lose(0, 0) = 1  far() = NONE  aim(1) = 1  far() = 0  aim(0) = 1  far() = NONE  reset() = 1  far() = 0
            aim(2) = 1  far() = NONE  arc(1, 0, 0, 0, 2) = 4  far() = 3  go(0) = 0  far() = 2  go(3) = 1  far() = 1  go(4) = 2  far() = 0
            unarc() = 4  far() = NONE  states(3) = 4  far() = 0  aim(2) = 1  far() = NONE
            """);
    }

    static void promise21_theWayIsGone() throws ReflectiveOperationException {
        Play.run(TWO_WAYS, """
            WAY = 1 2  go(0) = 0  WAY = 3  go(1) = 0  NOW = 0 ba .  WAY = 2  go(2) = NOT  lose(0, 0) = 1  WAY = 2
            go(2) = 1  far() = 0  way(0) = BAD  way(-1) = BAD
            reset() = 1  go(1) = 0  go(0) = 0  NOW = 0 ab .  WAY = 2  lose(0, 0) = 0  WAY = 3  lose(0, 0) = 1  WAY = 1 2
            unarc() = 3  go(0) = 0  WAY = 1 2  arc(0, 2, 1, 2, 1) = 3  found() = 4  WAY = 1 2
            want(0, 1) = 1  found() = 6  least() = 2
            FOUND 0 = 1 b . round 0 by -2 of -2 least
            FOUND 1 = 0 ab . round 1 by 2 of 0
            FOUND 2 = 0 b c round 1 by 3 of 0
            FOUND 3 = 0 a . round 2 by 0 of 1
            FOUND 4 = 0 . c round 2 by 0 of 2
            FOUND 5 = 0 . . round 3 by 1 of 3 least
            WAY = 1 0 2  go(1) = 0  WAY = 0 2  go(0) = 0  WAY = 2  go(2) = 1  far() = 0  NOW = 1 b .
            want(1, 0) = 1  way(0) = NONE  way(-1) = BAD  aim(0) = 1  way(0) = NONE  reset() = 1  way(0) = BAD
            """);
    }

    static void promise22_strictChangesWithNowTheAimAndL() throws ReflectiveOperationException {
        Play.run("""
            TEXT 0!a00;0!b01;1?a01;1?b02 = 23  read() = 4  aim(2) = 1
            strict(0) = NONE  strict(1) = 2  strict(3) = 2  strict(4) = BAD  strict(-1) = BAD
            want(0, 2) = 1  strict(1) = NONE  strict(0) = NOT  aim(2) = 1
            go(0) = 0  NOW = 0 a .  strict(0) = NOT  strict(1) = NONE  strict(2) = 3  strict(3) = 3  WAY = 1 3
            go(0) = 0  strict(1) = NOT  strict(2) = NONE  strict(3) = 4  far() = 2
            go(0) = 0  strict(2) = NOT  strict(3) = NONE  far() = 2  lose(0, 1) = 0  strict(3) = 4
            go(1) = 1  NOW = 1 aab .  strict(3) = 3  strict(2) = NOT  go(2) = 1  strict(2) = 2  go(2) = 1  strict(1) = 1
            go(3) = 2  strict(0) = 0  aim(0) = 1  strict(3) = NONE
            bag(0, true) = 0  aim(2) = 1  go(0) = 0  strict(1) = NONE  strict(2) = 2  go(1) = 1  NOW = 1 ab .  strict(2) = 1  strict(3) = 1
            go(3) = 2  NOW = 2 a .  strict(1) = 0  strict(0) = NOT
            arc(2, 0, 0, 0, 3) = 4  aim(3) = 1  want(0, 0) = 1  strict(1) = NONE  strict(2) = 4  strict(0) = NOT
            want(0, 0) = 2  strict(1) = NOT  strict(2) = NONE  strict(3) = 5  want(0, 0) = 3  strict(3) = NONE
            want(0, 0) = 4  strict(3) = NOT  unarc() = 4  aim(3) = 1  strict(3) = NONE
            """);
    }

    // ---- sheets

    static void promise23_newRowsInPlaceOfOldOnes() throws ReflectiveOperationException {
        Play.run("""
            sheet(0, 0, 5) = 5  arcs(0, 0, 0, 1) = 1  ARC 0 = 0 0 0 0 0
            item(0, 0, 0, 1) = 1  item(0, 0, 4, 2) = 1  arcs(0, 0, 0, 1) = 2  ARC 1 = 1 0 0 0 2
            sheet(0, 0, 5) = 5  arcs(0, 0, 0, 1) = 3  ARC 2 = 0 0 0 0 0
            sheet(0, 1, 5) = 5  arcs(0, 0, 0, 1) = CAST  item(0, 0, 0, 0) = CAST  item(0, 1, 4, 3) = 1
            sheet(0, 1, 61) = BAD  sheet(0, 1, -1) = SIZE  sheet(0, 2, -1) = BAD  sheet(2, 0, -1) = BAD  sheet(-1, 0, 5) = BAD
            arcs(0, 1, 0, 1) = 4  ARC 3 = 0 0 0 0 3  aim(3) = 1  WAY = 3  go(3) = 3
            sheet(0, 1, 4) = 4  NOW = 3 . .  far() = 0  arcs(0, 1, 0, 1) = INDEX  item(0, 1, 4, 0) = INDEX  item(0, 1, 3, 0) = 1
            sheet(0, 1, 0) = 0  item(0, 1, 0, 0) = INDEX  NOW = 3 . .  arcs(0, 1, 0, 0) = 4  NOW = 0 . .  drop(0) = 0
            arcs(0, 1, 0, 0) = NULL  sheet(1, 1, 60) = 60  arcs(0, 1, 0, 0) = NULL  arcs(1, 1, 0, 12) = 16
            item(1, 1, 59, 2) = 1  arcs(1, 1, 55, 1) = 17  ARC 16 = 0 0 0 0 2  sheet(1, 0, 60) = 60  arcs(1, 0, 55, 1) = 18
            ARC 17 = 0 0 0 0 0  sheet(0, 0, 1) = 1  drop(0) = 1  drop(1) = 60
            """);
    }

    static void promise24_sheetsAreDroppedAndHeldAgain() throws ReflectiveOperationException {
        Play.run("""
            drop(0) = NULL  drop(1) = NULL  drop(2) = BAD  drop(-1) = BAD
            sheet(0, 0, 5) = 5  sheet(1, 1, 7) = 7  item(0, 0, 4, 1) = 1  item(1, 1, 6, 9) = 1
            drop(0) = 5  drop(0) = NULL  item(0, 0, 4, 1) = NULL  arcs(0, 0, 0, 1) = NULL  arcs(0, 1, 0, 1) = NULL
            arcs(1, 1, 2, 1) = NOT  item(1, 1, 6, 3) = 1  arcs(1, 1, 2, 1) = 1  ARC 0 = 0 0 0 0 3  aim(3) = 1  go(0) = 3
            sheet(0, 0, 5) = 5  drop(1) = 7  NOW = 3 . .  far() = 0  ARC 0 = 0 0 0 0 3
            arcs(0, 0, 0, 1) = 2  ARC 1 = 0 0 0 0 0  sheet(1, 0, 0) = 0  drop(1) = 0  drop(1) = NULL  drop(0) = 5
            """);
    }

    static void promise25_itemByItemAnArcIsMade() throws ReflectiveOperationException {
        Play.run("""
            item(0, 1, 0, 1) = NULL  sheet(0, 1, 10) = 10  item(0, 1, 0, 1) = 1  item(0, 1, 1, 1) = 1  item(0, 1, 2, 1) = 1
            item(0, 1, 3, 2) = 1  item(0, 1, 4, 3) = 1  arcs(0, 1, 0, 1) = 1  ARC 0 = 1 1 1 2 3
            item(0, 1, 3, 0) = 1  arcs(0, 1, 0, 1) = 2  ARC 1 = 1 1 1 0 3  ARC 0 = 1 1 1 2 3
            item(0, 1, 10, 0) = INDEX  item(0, 1, -1, 0) = INDEX  item(0, 0, 0, 0) = CAST  item(0, 0, 10, 0) = CAST
            item(0, 2, 0, 0) = BAD  item(2, 1, 0, 0) = BAD  item(1, 1, 0, 0) = NULL
            item(0, 1, 1, 256) = 1  arcs(0, 1, 0, 1) = NOT  item(0, 1, 1, -1) = 1  arcs(0, 1, 0, 1) = NOT
            item(0, 1, 1, 0) = 1  item(0, 1, 2, -7) = 1  item(0, 1, 3, 99) = 1  arcs(0, 1, 0, 1) = 3  ARC 2 = 1 0 0 0 3
            aim(3) = 1  arcs(0, 1, 5, 1) = 4  ARC 3 = 0 0 0 0 0  item(0, 1, 9, 1) = 1  arcs(0, 1, 5, 1) = 5  WAY = 4 0
            go(4) = 1  item(0, 1, 9, 2) = 1  NOW = 1 . .  arcs(0, 1, 0, 2) = 7  ARC 6 = 0 0 0 0 2  NOW = 0 . .
            sheet(0, 0, 5) = 5  item(0, 0, 0, 513) = 1  item(0, 0, 1, -254) = 1  item(0, 0, 2, 256) = 1  item(0, 0, 3, 0x7FFFFF02) = 1
            item(0, 0, 4, -2147483645) = 1
            arcs(0, 0, 0, 1) = 8  ARC 7 = 1 2 0 2 3  item(0, 0, 4, 128) = 1  arcs(0, 0, 0, 1) = NOT
            item(0, 0, 4, 2) = 1  arcs(0, 0, 0, 1) = 9  ARC 8 = 1 2 0 2 2
            """);
    }
}
