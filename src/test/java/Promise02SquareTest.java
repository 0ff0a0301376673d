/** Promise 2: square. */
public final class Promise02SquareTest {
    private static final String CALL = "Promise 2, square: ";

    public static void main(String[] args) {
        eachSideIsEmptyAtAllPoints();
        numbersRiseFrom0To7();
        aNinthIsRefused();
        sidesOutOfRangeAreRefused();
        aWrongSideComesAheadOfTheNinth();
        fullSquaresLeaveNothingBehind();
        Check.end("Promise02SquareTest");
    }

    private static void eachSideIsEmptyAtAllPoints() {
        for (int side = 1; side <= 9; side++) {
            int s = side;
            Edges.adds(CALL + "the SIDE " + s, Halls.empty(s), LoshuHall::new, hall -> hall.square(s));
            Edges.adds(CALL + "the SIDE " + s + " behind 7", Halls.empty(s), Halls.laid(Halls.forms(7)), hall -> hall.square(s));
        }
    }

    private static void numbersRiseFrom0To7() {
        LoshuHall hall = new LoshuHall();
        for (int number = 0; number < 8; number++) {
            Check.due(CALL + "numbered from 0", number, hall.square(number + 2));
            Check.due(CALL + "the SIDE of the SQUARE " + number, number + 2, Halls.sideOf(hall, number));
        }
    }

    private static void aNinthIsRefused() {
        for (int side : new int[] {1, 9}) {
            Edges.adds(CALL + "7 leave room for the SIDE " + side, Halls.empty(side), Halls.laid(Halls.forms(7)),
                hall -> hall.square(side));
            Edges.refuses(CALL + "a ninth of the SIDE " + side, Check.ISE, Halls.laid(Halls.forms(8)), hall -> hall.square(side));
        }
    }

    private static void sidesOutOfRangeAreRefused() {
        for (int count : new int[] {0, 1, 7}) {
            Edges.range(CALL + "with " + count + " the side", 1, 9, Halls.laid(Halls.forms(count)), LoshuHall::square);
        }
    }

    private static void aWrongSideComesAheadOfTheNinth() {
        for (int side : new int[] {Integer.MIN_VALUE, -1, 0, 10, Integer.MAX_VALUE}) {
            Edges.refuses(CALL + "a ninth of the side " + side + ", both wrong", Check.IAE, Halls.laid(Halls.forms(8)),
                hall -> hall.square(side));
        }
    }

    private static void fullSquaresLeaveNothingBehind() {
        Halls.Laid laid = Halls.laid(Halls.filled(9, 999), Halls.loShu());
        for (int side = 1; side <= 9; side++) {
            int s = side;
            Edges.adds(CALL + "EMPTY behind full ones, SIDE " + s, Halls.empty(s), laid, hall -> hall.square(s));
        }
    }
}
