/** The sentences that several methods share, to be asked at each of them: who asks names the promise and the call. */
final class Edges {
    private static final int LOWEST_INT = Integer.MIN_VALUE;
    private static final int HIGHEST_INT = Integer.MAX_VALUE;

    private Edges() { }

    interface OfHall {
        long asked(LoshuHall hall);
    }

    interface OfInt {
        long asked(LoshuHall hall, int value);
    }

    interface OfPoint {
        long asked(LoshuHall hall, int row, int column);
    }

    /** "A call that throws an exception changes nothing." Each square is read in a hall of its own, for the 512 calls. */
    static void refuses(String what, String exception, Halls.Laid laid, OfHall call) {
        int count = Halls.countOf(laid.hall());
        for (int square = 0; square < count; square++) {
            LoshuHall hall = laid.hall();
            Check.fails(what, exception, () -> call.asked(hall));
            staysAsLaid(what, laid, hall, square);
        }
        LoshuHall hall = laid.hall();
        Check.fails(what, exception, () -> call.asked(hall));
        addsNone(what, count, hall);
    }

    /** The call answers so and leaves all squares as they are. */
    static void answers(String what, long due, Halls.Laid laid, OfHall call) {
        int count = Halls.countOf(laid.hall());
        for (int square = 0; square < count; square++) {
            LoshuHall hall = laid.hall();
            Check.due(what, due, call.asked(hall));
            staysAsLaid(what, laid, hall, square);
        }
        LoshuHall hall = laid.hall();
        Check.due(what, due, call.asked(hall));
        Check.due(what + ", asked again", due, call.asked(hall));
        addsNone(what, count, hall);
    }

    /** The call adds that square, behind those that are there, and leaves those as they are. */
    static void adds(String what, int[][] due, Halls.Laid laid, OfHall call) {
        int count = Halls.countOf(laid.hall());
        for (int square = 0; square < count; square++) {
            LoshuHall hall = laid.hall();
            Check.due(what + ": its number", count, call.asked(hall));
            staysAsLaid(what, laid, hall, square);
        }
        LoshuHall hall = laid.hall();
        Check.due(what + ": its number", count, call.asked(hall));
        Check.holds(what + ": its points", Halls.isLike(due, hall, count));
        addsNone(what, count + 1, hall);
    }

    /** The call changes that one square so, and no other. */
    static void changes(String what, long answer, int square, int[][] due, Halls.Laid laid, OfHall call) {
        int count = Halls.countOf(laid.hall());
        for (int other = 0; other < count; other++) {
            LoshuHall hall = laid.hall();
            Check.due(what, answer, call.asked(hall));
            if (other == square) {
                Check.holds(what + ": its points", Halls.isLike(due, hall, square));
            } else {
                staysAsLaid(what, laid, hall, other);
            }
        }
    }

    private static void staysAsLaid(String what, Halls.Laid laid, LoshuHall hall, int square) {
        LoshuHall unasked = laid.hall();
        int side = Halls.sideOf(unasked, square);
        Check.holds(what + ": the SQUARE " + square + " stays", Halls.isLike(Halls.read(unasked, square, side), hall, square));
    }

    private static void addsNone(String what, int count, LoshuHall hall) {
        Check.due(what + ": so many SQUARES are there", count, Halls.countOf(hall));
        String next = count == Halls.MOST_SQUARES ? Check.ISE : "" + count;
        Check.holds(what + ": the next SQUARE has the number " + next, Check.outcome(() -> hall.square(1)).equals(next));
    }

    /** "There is no such SQUARE", with 0, 1, 7 and 8 of them. */
    static void noSuchSquare(String call, OfInt asked) {
        for (int count : new int[] {0, 1, 7, 8}) {
            for (int square : new int[] {LOWEST_INT, -1, count, count + 1, 8, HIGHEST_INT}) {
                refuses(call + "no SQUARE " + square + " with " + count, Check.IOOBE, Halls.laid(Halls.forms(count)),
                    hall -> asked.asked(hall, square));
            }
        }
    }

    /** SQUARES are numbered from 0: with 1, 7 and 8 each one is there, and it is that one that is asked. */
    static void eachSquare(String call, int[][][] eight, OfInt asked) {
        eachInTurn(call, eight, asked);
        for (int count : new int[] {1, 7, 8}) {
            int[][][] squares = java.util.Arrays.copyOf(eight, count);
            for (int square = 0; square < count; square++) {
                int s = square;
                String due = Check.outcome(() -> asked.asked(Halls.of(eight[s]), 0));
                String got = Check.outcome(() -> asked.asked(Halls.of(squares), s));
                Check.holds(call + "the SQUARE " + s + " of " + count + " gave " + got + ", alone " + due, got.equals(due));
            }
        }
    }

    /** An answer hangs on the square alone, not on what was asked of others ahead of it. */
    private static void eachInTurn(String call, int[][][] eight, OfInt asked) {
        for (int square = 0; square < eight.length; square++) {
            int second = square;
            String due = Check.outcome(() -> asked.asked(Halls.of(eight), second));
            for (int other = 0; other < eight.length; other++) {
                int first = other;
                if (first != second) {
                    LoshuHall hall = Halls.of(eight);
                    Check.outcome(() -> asked.asked(hall, first));
                    String got = Check.outcome(() -> asked.asked(hall, second));
                    Check.holds(call + "the SQUARE " + second + " behind the SQUARE " + first + " gave " + got + ", at first " + due, got.equals(due));
                }
            }
        }
    }

    /** "There is no such row or column", at all SIDES. */
    static void noSuchPoint(String call, OfPoint asked) {
        for (int side = 1; side <= 9; side++) {
            int last = side - 1;
            Halls.Laid laid = Halls.laid(Halls.counted(side), Halls.filled(9, 7));
            for (int far : new int[] {LOWEST_INT, -1, side, HIGHEST_INT}) {
                refusesPoint(call + "SIDE " + side + ", ", laid, far, 0, asked);
                refusesPoint(call + "SIDE " + side + ", ", laid, far, last, asked);
                refusesPoint(call + "SIDE " + side + ", ", laid, 0, far, asked);
                refusesPoint(call + "SIDE " + side + ", ", laid, last, far, asked);
                refusesPoint(call + "SIDE " + side + ", ", laid, far, far, asked);
            }
        }
    }

    private static void refusesPoint(String call, Halls.Laid laid, int row, int column, OfPoint asked) {
        refuses(call + "no point in the row " + row + " and the column " + column, Check.IOOBE, laid,
            hall -> asked.asked(hall, row, column));
    }

    /** "Another argument is out of its range": just outside, and far off; the ends of the range are within it. */
    static void range(String what, int lowest, int highest, Halls.Laid laid, OfInt asked) {
        for (int value : new int[] {LOWEST_INT, lowest - 1, highest + 1, HIGHEST_INT}) {
            refuses(what + " " + value + " is out of its range", Check.IAE, laid, hall -> asked.asked(hall, value));
        }
        for (int value : new int[] {lowest, highest}) {
            String got = Check.outcome(() -> asked.asked(laid.hall(), value));
            Check.holds(what + " " + value + " is in its range, but gave " + got, !got.equals(Check.IAE));
        }
    }
}
