import java.lang.management.ManagementFactory;

/** The rows are made once: 512 of the dearest calls leave hardly anything behind. */
public final class RoomTest {
    private static final int CALLS = 512;
    private static final long MOST_BYTES = 100000;

    public static void main(String[] args) {
        LoshuHall hall = new LoshuHall();
        hall.make(LoshuHall.SIEGE, 9);
        hall.make(LoshuHall.SIEGE, 3);
        hall.square(3);
        hall.make(LoshuHall.LUX, 6);
        hall.square(4);
        for (int square = 5; square < 8; square++) {
            hall.make(LoshuHall.SIEGE, 9);
        }
        isSmall("laws", () -> hall.laws(0));
        isSmall("change", () -> hall.change(0, LoshuHall.TURN, 1));
        isSmall("least", () -> hall.least(0, 8, 8));
        isSmall("classes", () -> hall.classes());
        isSmall("completions", () -> hall.completions(2));
        isSmall("completion", () -> hall.completion(2, 7, 2, 2));
        isSmall("estimate", () -> hall.estimate(4, 6196));
        isSmall("givens", () -> hall.givens(1, true));
        isSmall("slip", () -> hall.slip(0, 0));
        isSmall("crossings", () -> hall.crossings(3, 111));
        isSmall("dimension", () -> hall.dimension(6, 62));
        isSmall("new objects", () -> new LoshuHall().classes(), 20000L * CALLS);
        Check.end("RoomTest");
    }

    private static void isSmall(String what, Check.Call call) {
        isSmall(what, call, MOST_BYTES);
    }

    private static void isSmall(String what, Check.Call call, long most) {
        com.sun.management.ThreadMXBean threads = (com.sun.management.ThreadMXBean) ManagementFactory.getThreadMXBean();
        long thread = Thread.currentThread().getId();
        call.answer();
        long before = threads.getThreadAllocatedBytes(thread);
        for (int i = 0; i < CALLS; i++) {
            call.answer();
        }
        long made = threads.getThreadAllocatedBytes(thread) - before;
        Check.holds(what + " makes " + made + " bytes, at most " + most + " are due", made <= most);
    }
}
