/** Promise 18: orthogonal. */
public final class Promise18OrthogonalTest {
    private static final String CALL = "Promise 18, orthogonal: ";

    public static void main(String[] args) {
        Edges.noSuchSquare(CALL + "the first, ", (hall, square) -> Check.bit(hall.orthogonal(square, 0)));
        Edges.noSuchSquare(CALL + "the second, ", (hall, square) -> Check.bit(hall.orthogonal(0, square)));
        Edges.noSuchSquare(CALL + "both, ", (hall, square) -> Check.bit(hall.orthogonal(square, square)));
        squaresAreAskedByTheirNumbers();
        unlikeSidesAreRefused();
        latinOnes();
        oneWithItself();
        emptyIs0();
        eachTwoOfPlaces();
        drawnSquares();
        Check.end("Promise18OrthogonalTest");
    }

    private static void are(String what, boolean due, int[][] one, int[][] other) {
        Halls.Laid laid = Halls.laid(one, other);
        Edges.answers(CALL + what, Check.bit(due), laid, hall -> Check.bit(hall.orthogonal(0, 1)));
        Edges.answers(CALL + what + ", the other way round", Check.bit(due), laid, hall -> Check.bit(hall.orthogonal(1, 0)));
    }

    private static void squaresAreAskedByTheirNumbers() {
        int[][][] squares = new int[8][][];
        for (int i = 0; i < 8; i++) {
            squares[i] = Halls.latin(3, 1 + i % 2);
        }
        for (int count : new int[] {7, 8}) {
            for (int one = 0; one < count; one++) {
                for (int other = 0; other < count; other++) {
                    LoshuHall hall = Halls.of(java.util.Arrays.copyOf(squares, count));
                    Check.due(CALL + one + " and " + other + " of " + count, (one + other) % 2,
                        Check.bit(hall.orthogonal(one, other)));
                }
            }
        }
    }

    private static void unlikeSidesAreRefused() {
        for (int one = 1; one <= 9; one++) {
            for (int other = 1; other <= 9; other++) {
                Halls.Laid laid = Halls.laid(Halls.counted(one), Halls.counted(other));
                String what = CALL + "the SIDES " + one + " and " + other;
                if (one == other) {
                    Edges.answers(what, 1, laid, hall -> Check.bit(hall.orthogonal(0, 1)));
                } else {
                    Edges.refuses(what, Check.ISE, laid, hall -> Check.bit(hall.orthogonal(0, 1)));
                }
            }
        }
        Edges.refuses(CALL + "unlike SIDES, all EMPTY", Check.ISE, Halls.laid(Halls.empty(2), Halls.empty(3)),
            hall -> Check.bit(hall.orthogonal(0, 1)));
    }

    private static void latinOnes() {
        for (int side = 3; side <= 9; side += 2) {
            are("two Latin ones of the SIDE " + side, true, Halls.latin(side, 1), Halls.latin(side, 2));
            are("a Latin one and itself again, SIDE " + side, false, Halls.latin(side, 1), Halls.latin(side, 1));
        }
        are("SIDE 9, whose difference 3 divides", false, Halls.latin(9, 1), Halls.latin(9, 4));
        are("SIDE 2", false, Halls.latin(2, 1), Halls.latin(2, 1));
        are("a NORMAL one and a Latin one", true, Halls.counted(9), Halls.latin(9, 1));
        are("a NORMAL one and an EMPTY one", true, Halls.counted(9), Halls.empty(9));
    }

    private static void oneWithItself() {
        for (int side = 1; side <= 9; side++) {
            Edges.answers(CALL + "a NORMAL one with itself, SIDE " + side, 1, Halls.laid(Halls.counted(side)),
                hall -> Check.bit(hall.orthogonal(0, 0)));
            Edges.answers(CALL + "an EMPTY one with itself, SIDE " + side, side == 1 ? 1 : 0, Halls.laid(Halls.empty(side)),
                hall -> Check.bit(hall.orthogonal(0, 0)));
            Edges.answers(CALL + "a Latin one with itself, SIDE " + side, side == 1 ? 1 : 0,
                Halls.laid(Halls.latin(side, 1)), hall -> Check.bit(hall.orthogonal(0, 0)));
        }
    }

    private static void emptyIs0() {
        are("one EMPTY point", true, Halls.with(Halls.counted(3), 0, 0), Halls.filled(3, 1));
        are("two EMPTY points beside the same", false, Halls.with(Halls.with(Halls.counted(3), 0, 0), 8, 0), Halls.filled(3, 1));
        are("two EMPTY points beside others", true, Halls.with(Halls.with(Halls.counted(3), 0, 0), 8, 0),
            Halls.with(Halls.filled(3, 1), 8, 2));
        are("two EMPTY points beside EMPTY and a number", true, Halls.with(Halls.with(Halls.counted(3), 0, 0), 8, 0),
            Halls.with(Halls.filled(3, 1), 8, 0));
        are("all EMPTY, SIDE 1", true, Halls.empty(1), Halls.empty(1));
        are("all EMPTY, SIDE 2", false, Halls.empty(2), Halls.empty(2));
        are("numbers that are the same the other way round", true, Halls.square(2, 1, 2, 3, 4), Halls.square(2, 2, 1, 4, 3));
        are("1 beside 999 and 999 beside 1", true, Halls.square(2, 1, 999, 1, 999), Halls.square(2, 999, 1, 1, 999));
    }

    private static void eachTwoOfPlaces() {
        for (int side = 2; side <= 9; side++) {
            int[][] one = Halls.counted(side);
            int last = side * side - 1;
            for (int p = 0; p < last; p++) {
                int[][] other = Halls.with(one, last, p + 1);
                LoshuHall hall = Halls.of(other, Halls.filled(side, 9));
                Check.due(CALL + "SIDE " + side + ", the PLACES " + p + " and " + last + " alike", 0,
                    Check.bit(hall.orthogonal(0, 1)));
                int[][] first = Halls.with(one, 0, p + 2);
                LoshuHall second = Halls.of(first, Halls.filled(side, 9));
                Check.due(CALL + "SIDE " + side + ", the PLACES 0 and " + (p + 1) + " alike", 0,
                    Check.bit(second.orthogonal(1, 0)));
            }
        }
    }

    private static void drawnSquares() {
        Draw draw = new Draw(18);
        for (int run = 0; run < 2000; run++) {
            int side = 1 + draw.below(3);
            int[][] a = draw.square(side, 2 + draw.below(8), 10);
            int[][] b = draw.square(side, 2 + draw.below(8), 10);
            Check.due(CALL + "drawn SQUARES", Check.bit(Naive.orthogonal(a, b)), Check.bit(Halls.of(a, b).orthogonal(0, 1)));
        }
    }
}
