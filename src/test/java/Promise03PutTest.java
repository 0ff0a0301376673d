/** Promise 3: put. */
public final class Promise03PutTest {
    private static final String CALL = "Promise 3, put: ";

    public static void main(String[] args) {
        Edges.noSuchSquare(CALL, (hall, square) -> hall.put(square, 0, 0, 1));
        Edges.noSuchPoint(CALL, (hall, row, column) -> hall.put(0, row, column, 1));
        Edges.eachSquare(CALL, Halls.forms(8), (hall, square) -> hall.put(square, 1, 2, 1));
        for (int side = 1; side <= 9; side++) {
            Edges.range(CALL + "SIDE " + side + ", the number", 0, 999, Halls.laid(Halls.empty(side)),
                (hall, number) -> hall.put(0, 0, 0, number));
            Edges.range(CALL + "SIDE " + side + ", full, the number", 0, 999, Halls.laid(Halls.counted(side)),
                (hall, number) -> hall.put(0, 0, 0, number));
        }
        itTellsWhatWasThere();
        itSetsThatPointAlone();
        itSetsTheNumberOfThatSquareAlone();
        aWrongPlaceComesAheadOfAWrongNumber();
        Check.end("Promise03PutTest");
    }

    private static void itTellsWhatWasThere() {
        LoshuHall hall = Halls.of(Halls.empty(9));
        int[] numbers = {999, 1, 1, 0, 0, 1, 0, 999, 999, 0, 2, 998, 500};
        int was = 0;
        for (int number : numbers) {
            Check.due(CALL + number + " in place of " + was, was, hall.put(0, 8, 8, number));
            Check.due(CALL + number + " is there", number, hall.at(0, 8, 8));
            was = number;
        }
        Check.due(CALL + "EMPTY in place of " + was, was, hall.put(0, 8, 8, LoshuHall.EMPTY));
    }

    private static void itSetsThatPointAlone() {
        for (int side = 1; side <= 9; side++) {
            int[][] empty = Halls.empty(side);
            int[][] full = Halls.counted(side);
            for (int p = 0; p < side * side; p++) {
                int row = p / side;
                int column = p % side;
                String what = CALL + "SIDE " + side + ", PLACE " + p + ", ";
                Edges.changes(what + "999 in an EMPTY SQUARE", 0, 0, Halls.with(empty, p, 999), Halls.laid(empty),
                    hall -> hall.put(0, row, column, 999));
                Edges.changes(what + "EMPTY in a full SQUARE", p + 1, 0, Halls.with(full, p, 0), Halls.laid(full),
                    hall -> hall.put(0, row, column, 0));
            }
        }
    }

    private static void itSetsTheNumberOfThatSquareAlone() {
        int[][][] forms = Halls.forms(8);
        for (int count : new int[] {1, 7, 8}) {
            for (int square = 0; square < count; square++) {
                int s = square;
                Edges.changes(CALL + "the SQUARE " + s + " of " + count, forms[s][2][0], s, Halls.with(forms[s], 6, 999),
                    Halls.laid(Halls.forms(count)), hall -> hall.put(s, 2, 0, 999));
            }
        }
    }

    private static void aWrongPlaceComesAheadOfAWrongNumber() {
        Halls.Laid laid = Halls.laid(Halls.loShu());
        for (int number : new int[] {Integer.MIN_VALUE, -1, 1000, Integer.MAX_VALUE}) {
            Edges.refuses(CALL + "no SQUARE and the number " + number, Check.IOOBE, laid, hall -> hall.put(1, 0, 0, number));
            Edges.refuses(CALL + "no SQUARE -1 and the number " + number, Check.IOOBE, laid, hall -> hall.put(-1, 0, 0, number));
            Edges.refuses(CALL + "no row and the number " + number, Check.IOOBE, laid, hall -> hall.put(0, 3, 0, number));
            Edges.refuses(CALL + "no row -1 and the number " + number, Check.IOOBE, laid, hall -> hall.put(0, -1, 0, number));
            Edges.refuses(CALL + "no column and the number " + number, Check.IOOBE, laid, hall -> hall.put(0, 0, 3, number));
            Edges.refuses(CALL + "no column -1 and the number " + number, Check.IOOBE, laid, hall -> hall.put(0, 0, -1, number));
            Edges.refuses(CALL + "no SQUARE in a new object and the number " + number, Check.IOOBE, LoshuHall::new,
                hall -> hall.put(0, 0, 0, number));
        }
    }
}
