/** Promise 4: at. */
public final class Promise04AtTest {
    private static final String CALL = "Promise 4, at: ";

    public static void main(String[] args) {
        Edges.noSuchSquare(CALL, (hall, square) -> hall.at(square, 0, 0));
        Edges.noSuchPoint(CALL, (hall, row, column) -> hall.at(0, row, column));
        Edges.eachSquare(CALL, Halls.forms(8), (hall, square) -> hall.at(square, 2, 0));
        eachPointIsTold();
        emptyIs0();
        theLowestAndTheHighestNumberAreTold();
        Check.end("Promise04AtTest");
    }

    private static void eachPointIsTold() {
        for (int side = 1; side <= 9; side++) {
            int[][] square = Halls.counted(side);
            LoshuHall hall = Halls.of(square);
            for (int p = 0; p < side * side; p++) {
                Check.due(CALL + "SIDE " + side + ", full, PLACE " + p, p + 1, hall.at(0, p / side, p % side));
            }
            int last = side - 1;
            Edges.answers(CALL + "SIDE " + side + ", the first point", 1, Halls.laid(square), asked -> asked.at(0, 0, 0));
            Edges.answers(CALL + "SIDE " + side + ", the last point", side * side, Halls.laid(square),
                asked -> asked.at(0, last, last));
        }
    }

    private static void emptyIs0() {
        for (int side = 1; side <= 9; side++) {
            LoshuHall hall = Halls.of(Halls.filled(9, 3), Halls.empty(side));
            int[][] holed = Halls.with(Halls.filled(side, 4), side * side / 2, 0);
            LoshuHall other = Halls.of(holed);
            for (int p = 0; p < side * side; p++) {
                Check.due(CALL + "SIDE " + side + ", all EMPTY, PLACE " + p, LoshuHall.EMPTY, hall.at(1, p / side, p % side));
                Check.due(CALL + "SIDE " + side + ", one EMPTY, PLACE " + p, holed[p / side][p % side],
                    other.at(0, p / side, p % side));
            }
        }
    }

    private static void theLowestAndTheHighestNumberAreTold() {
        Halls.Laid laid = Halls.laid(Halls.square(2, 1, 999, 0, 998));
        Edges.answers(CALL + "1", 1, laid, hall -> hall.at(0, 0, 0));
        Edges.answers(CALL + "999", 999, laid, hall -> hall.at(0, 0, 1));
        Edges.answers(CALL + "EMPTY between numbers", 0, laid, hall -> hall.at(0, 1, 0));
        Edges.answers(CALL + "998", 998, laid, hall -> hall.at(0, 1, 1));
    }
}
