import java.lang.management.ManagementFactory;
import java.util.Random;

/** What the calls of an object make fits many times into the room of one run (LANGUAGE.md, rule 12). */
public final class RoomTest {
    private static final Due due = new Due();
    // Far below 600,000 objects (each takes 16 bytes or more) and 7.3 million fields and elements (a byte or more each).
    private static final long BYTES = 100_000;
    private static final com.sun.management.ThreadMXBean THREADS =
        (com.sun.management.ThreadMXBean) ManagementFactory.getThreadMXBean();

    /** Calls on a new object. */
    private interface Run {
        void on(RainStreets x);
    }

    public static void main(String[] args) {
        // Once ahead of all, so that no class is loaded while it's measured.
        made(RoomTest::faults);
        asks("a new object", 12_000, x -> { });
        asks("all that is kept", BYTES, RoomTest::fill);
        asks("turns upon turns, all thrown away", BYTES, RoomTest::faults);
        asks("storms and tries", BYTES, RoomTest::storms);
        asks("days", BYTES, RoomTest::days);
        due.end();
    }

    private static void asks(String what, long most, Run run) {
        long bytes = made(run);
        due.yes(what + ": " + bytes + " bytes, at most " + most, bytes <= most);
    }

    private static long made(Run run) {
        long thread = Thread.currentThread().getId();
        long ahead = THREADS.getThreadAllocatedBytes(thread);
        run.on(new RainStreets());
        return THREADS.getThreadAllocatedBytes(thread) - ahead;
    }

    private static void fill(RainStreets x) {
        for (int i = 0; i < 12; i++) {
            x.corner(100, 500, 0, 1);
            x.bed(i, 0, 500, true);
        }
        for (int i = 0; i < 30; i++) {
            x.roof(i % 12, i % 20, 50, 200);
            x.rain(50);
        }
        for (int i = 0; i < 40; i++) {
            x.storm();
        }
        for (int i = 0; i < 48; i++) {
            x.complain(i % 12, i / 12);
        }
        for (int i = 0; i < 8; i++) {
            turns(x);
            due.is("rules", x.rules(680), i);
        }
        due.is("turns", x.law(0, 21), 17);
        x.pass(100);
    }

    /** 680 bytes: 17 times "turn 0 at 0 every 1" "from 0;". */
    private static void turns(RainStreets x) {
        for (int i = 0; i < 17; i++) {
            x.feed(0x7475726e, 0x20302061, 0x74203020, 0x65766572, 0x79203120);
            x.feed(0x66726f6d, 0x20303b20, 0x20202020, 0x20202020, 0x20202020);
        }
    }

    private static void faults(RainStreets x) {
        for (int i = 0; i < 13; i++) {
            turns(x);
            x.feed(0x41414141, 0, 0, 0, 0);
            due.is("a fault behind 17 turns", x.rules(700), -1);
            due.is("its place", x.fault(), 680);
        }
    }

    private static void storms(RainStreets x) {
        for (int i = 0; i < 12; i++) {
            x.corner(100, 20, 2, 1);
            x.below(i - 1, i);
            x.roof(i, 0, 50, 200);
        }
        for (int i = 0; i < 30; i++) {
            x.rain(50);
        }
        Random random = new Random(7);
        for (int i = 0; i < 110; i++) {
            x.best(4, 99999, random.nextInt(10001), i % 5);
            x.tried(random.nextInt(4096), i % 2);
            x.helps(i % 12, i % 11);
            x.crew(60, i % 3);
        }
    }

    private static void days(RainStreets x) {
        fill(x);
        for (int i = 0; i < 35; i++) {
            x.pass(100);
        }
    }
}
