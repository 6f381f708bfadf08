import java.lang.management.ManagementFactory;

/** All calls of one run live in one room, so that no call may make objects, and a new object is to be small. */
public final class RoomTest {
    /** What a measure itself, or a class that is loaded meanwhile, may take. */
    private static final long SLACK_BYTES = 10_000;
    private static final long MOST_NEW_BYTES = 100_000;
    private static final int TIMES = 20, OBJECTS = 100;

    private static final com.sun.management.ThreadMXBean THREADS =
        (com.sun.management.ThreadMXBean) ManagementFactory.getThreadMXBean();

    private static int wrong = 0;
    private static long sum = 0;

    private static long bytes() {
        return THREADS.getThreadAllocatedBytes(Thread.currentThread().getId());
    }

    private static void due(String what, long got, long most) {
        if (got > most) {
            wrong++;
            System.out.println(what + " took " + got + " bytes, due are " + most + " at most");
        }
    }

    /** Eight states, each of which sends and takes: strict and the search have much to do. */
    private static void fill(ForgettingLines x) {
        x.states(8);
        x.sheet(0, 0, 60);
        for (int arc = 0; arc < 20; arc++) {
            x.arc(arc % 8, arc % 3, arc % 2, arc / 2 % 3, (arc * 5 + 1) % 8);
        }
        x.aim(7);
    }

    private static void callAll(ForgettingLines x, int i) {
        sum += x.want(i % 2, i % 3) + x.found() + x.least() + x.far() + x.way(0) + x.about(0, 6) + x.letter(0, 0, 0);
        sum += x.aim(i % 8) + x.strict(3) + x.go(i % 20) + x.lose(0, 0) + x.now(0, -1) + x.reset();
        sum += x.sheet(i % 2, i % 2, 60) + x.item(1, 1, 4, 3) + x.unarc() + x.arcs(1, 1, 0, 1) + x.drop(i % 2);
        sum += x.type(0x302d3120L, 4) + x.told(0, 0) + x.bag(i % 2, i % 3 == 0) + x.arc(0, 1, 0, 0, 1);
        if (i % 20 == 19) {
            sum += x.read() + x.states(8);
            fill(x);
        }
    }

    private static ForgettingLines filled() {
        ForgettingLines x = new ForgettingLines();
        fill(x);
        return x;
    }

    /** Nearly as many calls as an object is used for. */
    private static void use(ForgettingLines x) {
        for (int i = 0; i < TIMES; i++) {
            callAll(x, i);
        }
    }

    public static void main(String[] args) {
        use(filled());
        long before = bytes();
        ForgettingLines x = new ForgettingLines();
        due("a new object", bytes() - before, MOST_NEW_BYTES);
        fill(x);
        long taken = 0;
        for (int objects = 0; objects < OBJECTS; objects++) {
            before = bytes();
            use(x);
            taken += bytes() - before;
            x = filled();
        }
        due("every call " + TIMES * OBJECTS + " times", taken, SLACK_BYTES);
        System.out.println(wrong == 0 ? "the room is as due" : "the room is not as due");
        if (wrong != 0) {
            System.exit(1);
        }
    }
}
