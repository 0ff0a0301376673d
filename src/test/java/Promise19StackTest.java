/** Promise 19: stack. */
public final class Promise19StackTest {
    private static final String CALL = "Promise 19, stack: ";

    public static void main(String[] args) {
        Edges.noSuchSquare(CALL + "the first, ", (hall, square) -> hall.stack(square, 0));
        Edges.noSuchSquare(CALL + "the second, ", (hall, square) -> hall.stack(0, square));
        Edges.noSuchSquare(CALL + "both, ", (hall, square) -> hall.stack(square, square));
        eachSide();
        lowestAndHighestNumbers();
        squaresAreAskedByTheirNumbers();
        unlikeSidesAreRefused();
        emptyPointsAndHighNumbersAreRefused();
        aNinthIsRefused();
        aMissingSquareComesAheadOfTheOthers();
        Check.end("Promise19StackTest");
    }

    private static int[][] stacked(int[][] one, int[][] other) {
        int side = one.length;
        int[][] due = new int[side][side];
        for (int r = 0; r < side; r++) {
            for (int c = 0; c < side; c++) {
                due[r][c] = side * (one[r][c] - 1) + other[r][c];
            }
        }
        return due;
    }

    private static void eachSide() {
        for (int side = 1; side <= 9; side++) {
            int[][] one = Halls.latin(side, 1);
            int[][] other = Halls.latin(side, 2);
            Halls.Laid laid = Halls.laid(one, other);
            Edges.adds(CALL + "SIDE " + side, stacked(one, other), laid, hall -> hall.stack(0, 1));
            Edges.adds(CALL + "SIDE " + side + ", the other way round", stacked(other, one), laid, hall -> hall.stack(1, 0));
            Edges.adds(CALL + "SIDE " + side + ", one with itself", stacked(other, other), laid, hall -> hall.stack(1, 1));
        }
        Edges.adds(CALL + "an example", Halls.square(2, 1, 4, 4, 1), Halls.laid(Halls.square(2, 1, 2, 2, 1)),
            hall -> hall.stack(0, 0));
        Edges.adds(CALL + "another example", Halls.square(2, 1, 2, 4, 3),
            Halls.laid(Halls.square(2, 1, 1, 2, 2), Halls.square(2, 1, 2, 2, 1)), hall -> hall.stack(0, 1));
    }

    private static void lowestAndHighestNumbers() {
        for (int side = 1; side <= 9; side++) {
            int[][] low = Halls.filled(side, 1);
            int[][] high = Halls.filled(side, side);
            Edges.adds(CALL + "SIDE " + side + ", all 1", Halls.filled(side, 1), Halls.laid(low), hall -> hall.stack(0, 0));
            Edges.adds(CALL + "SIDE " + side + ", all the SIDE", Halls.filled(side, side * side), Halls.laid(high),
                hall -> hall.stack(0, 0));
            Edges.adds(CALL + "SIDE " + side + ", 1 and the SIDE", Halls.filled(side, side), Halls.laid(low, high),
                hall -> hall.stack(0, 1));
        }
    }

    private static int[][][] latinOnes(int count) {
        int[][][] squares = new int[count][][];
        for (int i = 0; i < count; i++) {
            squares[i] = Halls.with(Halls.latin(3, 1 + i % 2), i, 1);
        }
        return squares;
    }

    private static void squaresAreAskedByTheirNumbers() {
        int[][][] squares = latinOnes(7);
        for (int one : new int[] {0, 3, 6}) {
            for (int other = 0; other < 7; other++) {
                int o = other;
                Edges.adds(CALL + one + " and " + o + " of 7", stacked(squares[one], squares[o]), Halls.laid(squares),
                    hall -> hall.stack(one, o));
            }
        }
    }

    private static void isRefused(String what, int[][] one, int[][] other) {
        Edges.refuses(CALL + what, Check.ISE, Halls.laid(one, other), hall -> hall.stack(0, 1));
    }

    private static void unlikeSidesAreRefused() {
        for (int one = 1; one <= 9; one++) {
            for (int other = 1; other <= 9; other++) {
                if (one != other) {
                    isRefused("the SIDES " + one + " and " + other, Halls.filled(one, 1), Halls.filled(other, 1));
                }
            }
        }
    }

    private static void emptyPointsAndHighNumbersAreRefused() {
        for (int side = 1; side <= 9; side++) {
            int[][] good = Halls.latin(side, 1);
            int points = side * side;
            for (int number : new int[] {0, side + 1, 999}) {
                for (int p : new int[] {0, side - 1, points / 2, points - 1}) {
                    int[][] bad = Halls.with(good, p, number);
                    String what = "SIDE " + side + ", " + number + " at " + p;
                    isRefused(what + " of the first", bad, good);
                    isRefused(what + " of the second", good, bad);
                    Edges.refuses(CALL + what + ", with itself", Check.ISE, Halls.laid(bad), hall -> hall.stack(0, 0));
                }
            }
            isRefused("SIDE " + side + ", the first all EMPTY", Halls.empty(side), good);
            isRefused("SIDE " + side + ", the second all EMPTY", good, Halls.empty(side));
        }
    }

    private static void aNinthIsRefused() {
        int[][][] squares = latinOnes(8);
        Edges.refuses(CALL + "a ninth", Check.ISE, Halls.laid(squares), hall -> hall.stack(0, 7));
        Edges.refuses(CALL + "a ninth, one with itself", Check.ISE, Halls.laid(squares), hall -> hall.stack(7, 7));
        squares[7] = Halls.empty(4);
        Edges.refuses(CALL + "a ninth of unlike SIDES", Check.ISE, Halls.laid(squares), hall -> hall.stack(0, 7));
        LoshuHall hall = Halls.of(Halls.latin(9, 1));
        for (int number = 1; number < 8; number++) {
            Check.due(CALL + "there is room for the number " + number, number, hall.stack(0, 0));
        }
        Check.fails(CALL + "no room for a ninth", Check.ISE, () -> hall.stack(0, 0));
    }

    private static void aMissingSquareComesAheadOfTheOthers() {
        Halls.Laid full = Halls.laid(latinOnes(8));
        for (int missing : new int[] {Integer.MIN_VALUE, -1, 8, Integer.MAX_VALUE}) {
            Edges.refuses(CALL + "a ninth, no first " + missing, Check.IOOBE, full, hall -> hall.stack(missing, 0));
            Edges.refuses(CALL + "a ninth, no second " + missing, Check.IOOBE, full, hall -> hall.stack(0, missing));
            Edges.refuses(CALL + "the first EMPTY, no second " + missing, Check.IOOBE, Halls.laid(Halls.empty(3)),
                hall -> hall.stack(0, missing));
            Edges.refuses(CALL + "the second EMPTY, no first " + missing, Check.IOOBE, Halls.laid(Halls.empty(3)),
                hall -> hall.stack(missing, 0));
            Edges.refuses(CALL + "high numbers, no second " + missing, Check.IOOBE, Halls.laid(Halls.loShu()),
                hall -> hall.stack(0, missing));
        }
    }
}
