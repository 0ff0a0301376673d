/** Promise 7: sum. */
public final class Promise07SumTest {
    private static final String CALL = "Promise 7, sum: ";
    private static final String[] KINDS = {"rows", "columns", "diagonals down to the right", "diagonals down to the left"};

    public static void main(String[] args) {
        Edges.noSuchSquare(CALL, (hall, square) -> hall.sum(square, 0, 0));
        Edges.eachSquare(CALL, Halls.forms(8), (hall, square) -> hall.sum(square, 2, 1));
        rangesAreKept();
        aMissingSquareComesAheadOfTheOthers();
        ofNineNumbers();
        remaindersAreNeverBelow0();
        eachPointIsOnItsFourLines();
        emptyIs0();
        theHighestSums();
        drawnSquares();
        Check.end("Promise07SumTest");
    }

    private static void rangesAreKept() {
        for (int side = 1; side <= 9; side++) {
            int last = side - 1;
            Halls.Laid laid = Halls.laid(Halls.counted(side));
            Edges.range(CALL + "SIDE " + side + ", the kind", 0, 3, laid, (hall, kind) -> hall.sum(0, kind, last));
            for (int kind = 0; kind < 4; kind++) {
                int k = kind;
                Edges.range(CALL + "SIDE " + side + ", " + KINDS[k] + ", the line", 0, last, laid,
                    (hall, line) -> hall.sum(0, k, line));
            }
        }
    }

    private static void aMissingSquareComesAheadOfTheOthers() {
        for (int far : new int[] {Integer.MIN_VALUE, -1, 4, Integer.MAX_VALUE}) {
            Halls.Laid laid = Halls.laid(Halls.loShu());
            Edges.refuses(CALL + "no SQUARE and the kind " + far, Check.IOOBE, laid, hall -> hall.sum(1, far, 0));
            Edges.refuses(CALL + "no SQUARE and the line " + far, Check.IOOBE, laid, hall -> hall.sum(-1, 0, far));
            Edges.refuses(CALL + "a new object, the kind and the line " + far, Check.IOOBE, LoshuHall::new,
                hall -> hall.sum(0, far, far));
            Edges.refuses(CALL + "the kind and the line " + far, Check.IAE, laid, hall -> hall.sum(0, far, far));
        }
    }

    /** Each sum tells which numbers are in it. */
    private static void ofNineNumbers() {
        int[] due = {7, 56, 448, 73, 146, 292, 273, 98, 140, 161, 266, 84};
        for (int i = 0; i < 12; i++) {
            int kind = i / 3;
            int line = i % 3;
            Edges.answers(CALL + KINDS[kind] + ", the line " + line, due[i],
                Halls.laid(Halls.square(3, 1, 2, 4, 8, 16, 32, 64, 128, 256)),
                hall -> hall.sum(0, kind, line));
        }
    }

    private static void remaindersAreNeverBelow0() {
        int[][] square = Halls.counted(5);
        int[][] left = {{0, 9, 13, 17, 21}, {1, 5, 14, 18, 22}, {2, 6, 10, 19, 23}, {3, 7, 11, 15, 24}, {4, 8, 12, 16, 20}};
        int[][] right = {{0, 6, 12, 18, 24}, {1, 7, 13, 19, 20}, {2, 8, 14, 15, 21}, {3, 9, 10, 16, 22}, {4, 5, 11, 17, 23}};
        for (int k = 0; k < 5; k++) {
            for (int p = 0; p < 25; p++) {
                LoshuHall hall = Halls.of(square, Halls.with(square, p, 900));
                int raised = 900 - p - 1;
                String what = CALL + "SIDE 5, PLACE " + p + ", k " + k;
                Check.due(what + " less the row is below 0", contains(left[k], p) ? raised : 0,
                    hall.sum(1, 3, k) - hall.sum(0, 3, k));
                Check.due(what + " and the row are beyond the SIDE", contains(right[k], p) ? raised : 0,
                    hall.sum(1, 2, k) - hall.sum(0, 2, k));
            }
        }
    }

    private static boolean contains(int[] places, int place) {
        for (int p : places) {
            if (p == place) {
                return true;
            }
        }
        return false;
    }

    private static void eachPointIsOnItsFourLines() {
        for (int side = 1; side <= 9; side++) {
            for (int p = 0; p < side * side; p++) {
                int row = p / side;
                int column = p % side;
                int[] lines = {row, column, Naive.mod(column - row, side), Naive.mod(column + row, side)};
                LoshuHall hall = Halls.of(Halls.with(Halls.empty(side), p, 7));
                for (int kind = 0; kind < 4; kind++) {
                    for (int line = 0; line < side; line++) {
                        String what = CALL + "SIDE " + side + ", PLACE " + p + " on " + KINDS[kind] + ", the line " + line;
                        Check.due(what, line == lines[kind] ? 7 : 0, hall.sum(0, kind, line));
                    }
                }
            }
        }
    }

    private static void emptyIs0() {
        int[][] holed = Halls.with(Halls.with(Halls.filled(4, 5), 0, 0), 10, 0);
        for (int kind = 0; kind < 4; kind++) {
            for (int line = 0; line < 4; line++) {
                int k = kind;
                int l = line;
                Edges.answers(CALL + "all EMPTY, " + KINDS[k] + ", the line " + l, 0, Halls.laid(Halls.empty(4)),
                    hall -> hall.sum(0, k, l));
                Edges.answers(CALL + "some EMPTY, " + KINDS[k] + ", the line " + l, Naive.sum(holed, k, l),
                    Halls.laid(holed), hall -> hall.sum(0, k, l));
            }
        }
    }

    private static void theHighestSums() {
        for (int side = 1; side <= 9; side++) {
            LoshuHall hall = Halls.of(Halls.filled(side, 999));
            for (int kind = 0; kind < 4; kind++) {
                Check.due(CALL + "all 999, SIDE " + side + ", the first of " + KINDS[kind], 999 * side, hall.sum(0, kind, 0));
                Check.due(CALL + "all 999, SIDE " + side + ", the last of " + KINDS[kind], 999 * side,
                    hall.sum(0, kind, side - 1));
            }
        }
    }

    private static void drawnSquares() {
        Draw draw = new Draw(7);
        for (int side = 1; side <= 9; side++) {
            int[][] a = draw.square(side, 999, 5);
            LoshuHall hall = Halls.of(a);
            for (int kind = 0; kind < 4; kind++) {
                for (int line = 0; line < side; line++) {
                    Check.due(CALL + "drawn, SIDE " + side + ", " + KINDS[kind] + ", the line " + line,
                        Naive.sum(a, kind, line), hall.sum(0, kind, line));
                }
            }
        }
    }
}
