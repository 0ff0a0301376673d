import java.lang.management.ManagementFactory;

/** The rows are made once: 512 of the dearest calls leave hardly anything behind. */
public final class RoomTest {
    private static final int CALLS = 500;
    private static final long MOST_BYTES = 100000;

    public static void main(String[] args) {
        isSmall("laws", hall -> hall.laws(0));
        isSmall("change", hall -> hall.change(0, LoshuHall.TURN, 1));
        isSmall("least", hall -> hall.least(0, 8, 8));
        isSmall("classes", LoshuHall::classes);
        isSmall("completions", hall -> hall.completions(2));
        isSmall("completion", hall -> hall.completion(2, 7, 2, 2));
        isSmall("estimate", hall -> hall.estimate(4, 6196));
        isSmall("givens", hall -> hall.givens(1, true));
        isSmall("slip", hall -> hall.slip(0, 0));
        isSmall("crossings", hall -> hall.crossings(3, 111));
        isSmall("dimension", hall -> hall.dimension(6, 62));
        isSmall("new objects", hall -> new LoshuHall().classes(), 20000L * CALLS);
        Check.end("RoomTest");
    }

    private static LoshuHall laid() {
        LoshuHall hall = new LoshuHall();
        hall.make(LoshuHall.SIEGE, 9);
        hall.make(LoshuHall.SIEGE, 3);
        hall.square(3);
        hall.make(LoshuHall.LUX, 6);
        hall.square(4);
        for (int square = 5; square < 8; square++) {
            hall.make(LoshuHall.SIEGE, 9);
        }
        return hall;
    }

    private static void isSmall(String what, Edges.OfHall call) {
        isSmall(what, call, MOST_BYTES);
    }

    private static void isSmall(String what, Edges.OfHall call, long most) {
        com.sun.management.ThreadMXBean threads = (com.sun.management.ThreadMXBean) ManagementFactory.getThreadMXBean();
        long thread = Thread.currentThread().getId();
        LoshuHall hall = laid();
        call.asked(hall);
        long before = threads.getThreadAllocatedBytes(thread);
        for (int i = 0; i < CALLS; i++) {
            call.asked(hall);
        }
        long made = threads.getThreadAllocatedBytes(thread) - before;
        Check.holds(what + " makes " + made + " bytes, at most " + most + " are due", made <= most);
    }
}
