/** Promise 11: kin. */
public final class Promise11KinTest {
    private static final String CALL = "Promise 11, kin: ";

    public static void main(String[] args) {
        Edges.noSuchSquare(CALL, LoshuHall::kin);
        Edges.eachSquare(CALL, unlikeSquares(), LoshuHall::kin);
        one();
        two();
        four();
        allEight();
        drawnSquares();
        Check.end("Promise11KinTest");
    }

    private static int[][][] unlikeSquares() {
        return new int[][][] {Halls.loShu(), Halls.empty(3), Halls.square(2, 1, 2, 2, 1), Halls.square(2, 1, 1, 2, 2), Halls.filled(9, 3),
            Halls.counted(4), Halls.filled(1, 2), Halls.square(2, 1, 2, 2, 3)};
    }

    private static void kinIs(String what, int due, int[][] square) {
        Edges.answers(CALL + what, due, Halls.laid(square), hall -> hall.kin(0));
    }

    private static void one() {
        for (int side = 2; side <= 9; side++) {
            kinIs("only itself, SIDE " + side, 1, Halls.counted(side));
            kinIs("only itself, with an EMPTY point, SIDE " + side, 1, Halls.with(Halls.counted(side), side, 0));
        }
    }

    private static void two() {
        kinIs("behind a FLIP", 2, Halls.square(2, 1, 1, 2, 2));
        kinIs("behind a FLIP and a TURN of 2", 2, Halls.square(2, 1, 2, 1, 2));
        kinIs("behind a FLIP and a TURN of 1", 2, Halls.square(2, 1, 2, 3, 1));
        kinIs("behind a FLIP and a TURN of 3", 2, Halls.square(2, 1, 2, 2, 3));
        kinIs("behind a TURN of 2", 2, Halls.square(3, 1, 2, 3, 4, 5, 4, 3, 2, 1));
        for (int side = 2; side <= 9; side++) {
            kinIs("one number at a corner, SIDE " + side, 2, Halls.with(Halls.empty(side), side * side - 1, 1));
        }
    }

    private static void four() {
        kinIs("behind each TURN", 4, Halls.square(4, 1, 2, 3, 1, 3, 4, 4, 2, 2, 4, 4, 3, 1, 3, 2, 1));
        kinIs("behind each FLIP along a side", 4, Halls.square(3, 1, 2, 1, 3, 5, 3, 1, 2, 1));
        kinIs("behind each FLIP along a diagonal", 4, Halls.square(2, 1, 2, 2, 1));
    }

    private static void allEight() {
        for (int side = 1; side <= 9; side++) {
            kinIs("all EMPTY, SIDE " + side, 8, Halls.empty(side));
            kinIs("all alike, SIDE " + side, 8, Halls.filled(side, 999));
        }
        kinIs("SIDE 1", 8, Halls.filled(1, 1));
        kinIs("rings", 8, Halls.square(3, 1, 2, 1, 2, 5, 2, 1, 2, 1));
        kinIs("the middle alone", 8, Halls.with(Halls.empty(9), 40, 7));
    }

    private static void drawnSquares() {
        Draw draw = new Draw(11);
        for (int run = 0; run < 1000; run++) {
            int[][] a = draw.square(1 + draw.below(4), 1 + draw.below(2), 3);
            int due = 0;
            for (int[][] form : Naive.forms(a)) {
                due += Naive.compare(form, a) == 0 ? 1 : 0;
            }
            Check.due(CALL + "a drawn SQUARE", due, Halls.of(a).kin(0));
        }
    }
}
