import java.util.function.Supplier;
import java.util.function.ToIntFunction;

/** Objects to hold refused calls against: all that can be told behind the call is as of a twin that had no such call. */
final class Twins {
    private Twins() {
    }

    /** All is full: 20 arcs, 130 bytes, ten letters on each line of now and on one of the aim; and it is spent. */
    static Lines full() {
        Lines x = new Lines();
        x.states(5);
        x.bag(1, true);
        x.readText("0!a00;0!c10;1!b00;0?b00;0?a10;2!c12;3?b04;4-3;0?c03;2-2;0-4;3-0;1-1;3!a03;2?c13;1?b11;0!b10;4?a04;4!a14;0?a03");
        x.goTimes(0, 10).goTimes(1, 10);
        x.aimAt(3, "abcabcabca", "b");
        x.typeText("1!b02;3?a14" + " ".repeat(119));
        x.sheet(0, 0, 5);
        x.putItems(0, 0, 0, 3, 2, 1, 2, 4);
        x.sheet(1, 1, 10);
        return x.putItems(1, 1, 0, 1, 1, 1, 1, 2, 7, 1, 0, 2, 3);
    }

    /** Now is one arc before the aim; sheet 0 holds nothing, sheet 1 a row of no bytes. */
    static Lines midway() {
        Lines x = Lines.of(4, "0!a01;1!b12;2?a03;0-3;2?c02");
        x.aimAt(3, "", "b");
        x.goAll(0, 1);
        x.typeText("0-1");
        x.sheet(1, 0, 0);
        return x;
    }

    static void dueRefused(String what, Supplier<Lines> made, int want, ToIntFunction<Lines> call) {
        Lines x = made.get();
        Suite.due(what, call.applyAsInt(x), want);
        Suite.due("behind " + what + " everything", x.everything(), made.get().everything());
    }

    /** What is refused in whatever state the object is. */
    static void dueRefusedAnywhere(String what, int want, ToIntFunction<Lines> call) {
        dueRefused(what, Lines::new, want, call);
        dueRefused(what, Twins::midway, want, call);
        dueRefused(what, Twins::full, want, call);
    }
}
