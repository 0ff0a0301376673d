/** Promise 21: crossings. */
public final class Promise21CrossingsTest {
    private static final String CALL = "Promise 21, crossings: ";
    private static final int[] FACTORIALS = {1, 1, 2, 6, 24, 120, 720};

    public static void main(String[] args) {
        Edges.noSuchSquare(CALL, (hall, square) -> hall.crossings(square, 15));
        Edges.eachSquare(CALL, unlikeSquares(), (hall, square) -> hall.crossings(square, 15));
        rangesAreKept();
        sidesAbove6AreRefused();
        severalAreWrong();
        emptyIs0();
        theHighestTotals();
        examples();
        eachWayHasOneOfEachRowAndColumn();
        drawnSquares();
        Check.end("Promise21CrossingsTest");
    }

    private static int[][][] unlikeSquares() {
        return new int[][][] {Halls.loShu(), Halls.filled(3, 5), Halls.filled(1, 15), Halls.empty(6), Halls.filled(7, 1), Halls.counted(3),
            Halls.filled(2, 7), Halls.filled(5, 3)};
    }

    private static void crossingsAre(String what, int due, int[][] square, int total) {
        Edges.answers(CALL + what + ", the total " + total, due, Halls.laid(square), hall -> hall.crossings(0, total));
        Check.due(CALL + what + ", the total " + total + ", by the second reading", due, Naive.crossings(square, total));
    }

    private static void rangesAreKept() {
        for (int side = 1; side <= 6; side++) {
            Edges.range(CALL + "SIDE " + side + ", full, the total", 0, 8991, Halls.laid(Halls.counted(side)),
                (hall, total) -> hall.crossings(0, total));
            Edges.range(CALL + "SIDE " + side + ", EMPTY, the total", 0, 8991, Halls.laid(Halls.empty(side)),
                (hall, total) -> hall.crossings(0, total));
        }
    }

    private static void sidesAbove6AreRefused() {
        for (int side = 7; side <= 9; side++) {
            for (int total : new int[] {0, 1, 8991}) {
                Edges.refuses(CALL + "SIDE " + side + ", full, the total " + total, Check.ISE,
                    Halls.laid(Halls.filled(side, 999)), hall -> hall.crossings(0, total));
                Edges.refuses(CALL + "SIDE " + side + ", EMPTY, the total " + total, Check.ISE,
                    Halls.laid(Halls.empty(side)), hall -> hall.crossings(0, total));
            }
        }
        crossingsAre("SIDE 6 is counted", 1,
            Halls.square(6, 1, 0, 0, 0, 0, 0, 0, 2, 0, 0, 0, 0, 0, 0, 4, 0, 0, 0, 0, 0, 0, 8, 0, 0, 0, 0, 0, 0, 16, 0, 0, 0, 0, 0, 0, 32), 63);
    }

    private static void severalAreWrong() {
        for (int total : new int[] {Integer.MIN_VALUE, -1, 8992, Integer.MAX_VALUE}) {
            Halls.Laid seven = Halls.laid(Halls.filled(7, 1));
            Edges.refuses(CALL + "SIDE 7 and the total " + total, Check.IAE, seven, hall -> hall.crossings(0, total));
            Edges.refuses(CALL + "no SQUARE and the total " + total, Check.IOOBE, seven, hall -> hall.crossings(1, total));
            Edges.refuses(CALL + "no SQUARE -1 and the total " + total, Check.IOOBE, seven, hall -> hall.crossings(-1, total));
            Edges.refuses(CALL + "a new object and the total " + total, Check.IOOBE, LoshuHall::new,
                hall -> hall.crossings(0, total));
        }
    }

    private static void emptyIs0() {
        for (int side = 1; side <= 6; side++) {
            crossingsAre("all EMPTY, SIDE " + side, FACTORIALS[side], Halls.empty(side), 0);
            crossingsAre("all EMPTY, SIDE " + side, 0, Halls.empty(side), 1);
            crossingsAre("all EMPTY, SIDE " + side, 0, Halls.empty(side), 8991);
            for (int p = 0; p < side * side; p++) {
                int[][] lone = Halls.with(Halls.empty(side), p, 7);
                crossingsAre("one number at " + p + ", SIDE " + side, FACTORIALS[side - 1], lone, 7);
                crossingsAre("one number at " + p + ", SIDE " + side, FACTORIALS[side] - FACTORIALS[side - 1], lone, 0);
            }
        }
    }

    private static void theHighestTotals() {
        for (int side = 1; side <= 6; side++) {
            int[][] high = Halls.filled(side, 999);
            crossingsAre("all 999, SIDE " + side, FACTORIALS[side], high, 999 * side);
            crossingsAre("all 999, SIDE " + side, 0, high, 999 * side - 1);
            crossingsAre("all 999, SIDE " + side, 0, high, 999 * side + 1);
            crossingsAre("all 999, SIDE " + side, 0, high, 0);
            crossingsAre("all 999, SIDE " + side, 0, high, 8991);
            crossingsAre("all 1, SIDE " + side, FACTORIALS[side], Halls.filled(side, 1), side);
        }
    }

    private static void examples() {
        crossingsAre("SIEGE of the SIDE 3", 2, Halls.loShu(), 15);
        crossingsAre("what is counted, SIDE 3: all", 6, Halls.counted(3), 15);
        crossingsAre("what is counted, SIDE 3: none", 0, Halls.counted(3), 14);
        crossingsAre("SIDE 1", 1, Halls.filled(1, 999), 999);
        crossingsAre("SIDE 1, another total", 0, Halls.filled(1, 999), 998);
        crossingsAre("SIDE 2, the one DIAGONAL", 1, Halls.square(2, 1, 2, 4, 8), 9);
        crossingsAre("SIDE 2, the other one", 1, Halls.square(2, 1, 2, 4, 8), 6);
        crossingsAre("SIDE 2, no row", 0, Halls.square(2, 1, 2, 4, 8), 3);
        crossingsAre("SIDE 2, no column", 0, Halls.square(2, 1, 2, 4, 8), 5);
        crossingsAre("a total that its parts reach ahead of the last row", 1, Halls.square(2, 5, 3, 0, 0), 5);
    }

    private static void eachWayHasOneOfEachRowAndColumn() {
        for (int side = 2; side <= 6; side++) {
            int[][] rows = new int[side][side];
            int[][] columns = new int[side][side];
            for (int r = 0; r < side; r++) {
                for (int c = 0; c < side; c++) {
                    rows[r][c] = 1 << r;
                    columns[r][c] = 1 << c;
                }
            }
            crossingsAre("one of each row, SIDE " + side, FACTORIALS[side], rows, (1 << side) - 1);
            crossingsAre("one of each column, SIDE " + side, FACTORIALS[side], columns, (1 << side) - 1);
            crossingsAre("no column left out, SIDE " + side, 0, columns, (1 << side) - 2);
        }
    }

    private static void drawnSquares() {
        Draw draw = new Draw(21);
        for (int run = 0; run < 300; run++) {
            int side = 1 + draw.below(6);
            int[][] a = draw.square(side, run % 4 == 0 ? 999 : 4, 6);
            LoshuHall hall = Halls.of(a);
            for (int i = 0; i < 12; i++) {
                int total = run % 4 == 0 ? draw.below(8992) : Math.max(0, 2 * side - 4 + i);
                Check.due(CALL + "drawn, the total " + total, Naive.crossings(a, total), hall.crossings(0, total));
            }
        }
    }
}
