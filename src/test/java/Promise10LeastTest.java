/** Promise 10: least. */
public final class Promise10LeastTest {
    private static final String CALL = "Promise 10, least: ";

    public static void main(String[] args) {
        Edges.noSuchSquare(CALL, (hall, square) -> hall.least(square, 0, 0));
        Edges.noSuchPoint(CALL, (hall, row, column) -> hall.least(0, row, column));
        Edges.eachSquare(CALL, unlikeSquares(), (hall, square) -> hall.least(square, 0, 1));
        eachFormHasOneLeastForm();
        emptyIsLowerThanAnyNumber();
        allEmptyAndAllAlike();
        theFirstPlaceThatDiffersDecides();
        drawnSquares();
        Check.end("Promise10LeastTest");
    }

    private static int[][][] unlikeSquares() {
        int[][][] squares = new int[8][][];
        for (int i = 0; i < 8; i++) {
            squares[i] = Naive.changed(Halls.counted(2 + i % 3), LoshuHall.COMPLEMENT, 100 + 10 * i);
        }
        return squares;
    }

    private static void leastIs(String what, int[][] square, int[][] due) {
        int side = square.length;
        for (int p = 0; p < side * side; p++) {
            int row = p / side;
            int column = p % side;
            Edges.answers(CALL + what + ", PLACE " + p, due[row][column], Halls.laid(square), hall -> hall.least(0, row, column));
        }
        Check.due(CALL + what + ", by the second reading", 0, Naive.differing(due, Naive.least(square)));
    }

    private static void eachFormHasOneLeastForm() {
        for (int[][] form : Naive.forms(Halls.loShu())) {
            leastIs("a FORM of SIEGE", form, Halls.square(3, 2, 7, 6, 9, 5, 1, 4, 3, 8));
        }
        for (int side = 1; side <= 9; side++) {
            int[][] full = Halls.counted(side);
            for (int[][] form : Naive.forms(full)) {
                LoshuHall hall = Halls.of(form);
                for (int p = 0; p < side * side; p++) {
                    Check.due(CALL + "SIDE " + side + ", a FORM of what is counted, PLACE " + p, p + 1,
                        hall.least(0, p / side, p % side));
                }
            }
        }
    }

    private static void emptyIsLowerThanAnyNumber() {
        leastIs("EMPTY in the last corner", Halls.square(2, 1, 2, 3, 0), Halls.square(2, 0, 2, 3, 1));
        leastIs("EMPTY in three corners", Halls.square(2, 0, 0, 1, 0), Halls.square(2, 0, 0, 0, 1));
        for (int side = 1; side <= 9; side++) {
            int[][] lone = Halls.with(Halls.empty(side), 0, 999);
            LoshuHall hall = Halls.of(lone);
            int last = side - 1;
            Check.due(CALL + "SIDE " + side + ", the one number comes last", 999, hall.least(0, last, last));
            Check.due(CALL + "SIDE " + side + ", EMPTY comes first", side == 1 ? 999 : 0, hall.least(0, 0, 0));
        }
    }

    private static void allEmptyAndAllAlike() {
        for (int side = 1; side <= 9; side++) {
            LoshuHall empty = Halls.of(Halls.empty(side));
            LoshuHall alike = Halls.of(Halls.filled(side, 999));
            for (int p = 0; p < side * side; p++) {
                Check.due(CALL + "SIDE " + side + ", all EMPTY, PLACE " + p, 0, empty.least(0, p / side, p % side));
                Check.due(CALL + "SIDE " + side + ", all 999, PLACE " + p, 999, alike.least(0, p / side, p % side));
            }
        }
    }

    private static void theFirstPlaceThatDiffersDecides() {
        leastIs("corners alike, the PLACE 1 decides", Halls.square(3, 1, 8, 1, 6, 5, 4, 1, 2, 1),
            Halls.square(3, 1, 2, 1, 4, 5, 6, 1, 8, 1));
        leastIs("corners and two sides alike, the PLACE 3 decides", Halls.square(3, 1, 2, 1, 9, 5, 3, 1, 2, 1),
            Halls.square(3, 1, 2, 1, 3, 5, 9, 1, 2, 1));
        leastIs("the PLACE 2 decides", Halls.square(3, 1, 2, 9, 2, 5, 6, 3, 8, 9), Halls.square(3, 1, 2, 3, 2, 5, 8, 9, 6, 9));
        int[][] late = Halls.with(Halls.with(Halls.filled(9, 7), 30, 6), 32, 5);
        leastIs("a late PLACE decides", late, Naive.least(late));
    }

    private static void drawnSquares() {
        Draw draw = new Draw(10);
        for (int run = 0; run < 900; run++) {
            int side = 1 + run % 9;
            int[][] a = draw.square(side, 1 + draw.below(run % 2 == 0 ? 2 : 999), 3);
            int[][] least = Naive.least(a);
            LoshuHall hall = Halls.of(a);
            for (int p = 0; p < side * side; p++) {
                Check.due(CALL + "drawn, SIDE " + side, least[p / side][p % side], hall.least(0, p / side, p % side));
            }
        }
    }
}
