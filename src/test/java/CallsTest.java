/** What it is: "an object is used for at most 512 calls", of which each one is answered as the first. */
public final class CallsTest {
    private static final String CALL = "What it is, 512 calls: ";

    public static void main(String[] args) {
        for (Calls.Known known : Calls.ALL) {
            String method = CALL + "Promise " + known.promise + ", " + known.name + ", ";
            asTheFirstBehindLaying(method, known);
            asTheLast(method, known);
            refusedAsTheLast(method, known);
            asAllOfThem(method, known);
        }
        allAreRefused();
        Check.end("CallsTest");
    }

    private static void asTheFirstBehindLaying(String method, Calls.Known known) {
        Check.due(method + "early", known.due, known.asked.asked(Calls.laid()));
    }

    /** A hall of which so many calls are used up: by some that answer, some that throw, and none that changes a thing. */
    private static LoshuHall usedUpTo(int calls) {
        LoshuHall hall = Calls.laid();
        for (int call = Calls.callsOfLaying(); call < calls; call++) {
            int square = call % 5;
            Check.outcome(() -> square % 2 == 0 ? hall.laws(square) : hall.dimension(square, 14));
        }
        return hall;
    }

    private static void asTheLast(String method, Calls.Known known) {
        Check.due(method + "as the call 511", known.due, known.asked.asked(usedUpTo(Halls.MOST_CALLS - 2)));
        Check.due(method + "as the call 512", known.due, known.asked.asked(usedUpTo(Halls.MOST_CALLS - 1)));
    }

    private static void refusedAsTheLast(String method, Calls.Known known) {
        if (known.asksSquares) {
            LoshuHall hall = new LoshuHall();
            for (int call = 0; call < Halls.MOST_CALLS; call++) {
                Check.fails(method + "on no SQUARE, as the call " + (call + 1), Check.IOOBE, () -> known.asked.asked(hall));
            }
        }
    }

    /** What adds a square is refused as soon as there are 8; what changes one answers by what the last one left. */
    private static void asAllOfThem(String method, Calls.Known known) {
        LoshuHall hall = Calls.laid();
        boolean isAdding = known.promise == 2 || known.promise == 5 || known.promise == 19 || known.promise == 20;
        int squares = 4;
        for (int call = Calls.callsOfLaying(); call < Halls.MOST_CALLS; call++) {
            String due = "" + known.due;
            if (isAdding) {
                due = squares < Halls.MOST_SQUARES ? "" + squares++ : Check.ISE;
            } else if (known.promise == 3 && call > Calls.callsOfLaying()) {
                due = "999";
            }
            String got = Check.outcome(() -> known.asked.asked(hall));
            Check.holds(method + "as the call " + (call + 1) + " of the same gave " + got + ", due is " + due, got.equals(due));
        }
    }

    private static void allAreRefused() {
        LoshuHall hall = new LoshuHall();
        for (int call = 0; call < Halls.MOST_CALLS - 1; call++) {
            int value = call;
            Check.fails(CALL + "a refused SQUARE, as the call " + (call + 1), Check.IAE,
                () -> hall.square(value % 2 == 0 ? -value : 10 + value));
        }
        Check.due(CALL + "the first SQUARE as the call 512", 0, hall.square(9));
    }
}
