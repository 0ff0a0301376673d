/** Promise 15: estimate. */
public final class Promise15EstimateTest {
    private static final String CALL = "Promise 15, estimate: ";
    private static final String[] SHORT = {"ROWS", "COLUMNS", "the DIAGONAL down to the right", "the DIAGONAL down to the left", "NORMAL"};
    private static final int[] SEEDS = {0, 1, 2, 3, 12345, 32767, 32768, 65534, 65535};

    public static void main(String[] args) {
        Edges.noSuchSquare(CALL, (hall, square) -> hall.estimate(square, 0));
        Edges.eachSquare(CALL, unlikeSquares(), (hall, square) -> hall.estimate(square, 65535));
        rangesAreKept();
        sidesAbove4AreRefused();
        severalAreWrong();
        smallSides();
        theEmptySide3FromEachState();
        theEmptySide4();
        fullOnes();
        numbersAboveAndTwice();
        linesThatAreFull();
        linesWithEmptyPoints();
        drawnSquares();
        Check.end("Promise15EstimateTest");
    }

    private static int[][][] unlikeSquares() {
        return new int[][][] {Halls.loShu(), Halls.with(Halls.empty(3), 4, 5), Halls.empty(1), Halls.empty(2), Halls.counted(5),
            Halls.filled(3, 5),
            Halls.square(3, 8, 1, 6, 0, 0, 0, 0, 0, 0), Halls.square(3, 0, 0, 6, 0, 5, 0, 0, 0, 2)};
    }

    private static void estimateIs(String what, long due, int[][] square, int seed) {
        Edges.answers(CALL + what + ", from " + seed, due, Halls.laid(square), hall -> hall.estimate(0, seed));
        Check.due(CALL + what + ", from " + seed + ", by the second reading", due, Naive.estimate(square, seed));
    }

    private static void isAsRead(String what, int[][] square) {
        for (int seed : SEEDS) {
            Edges.answers(CALL + what + ", from " + seed, Naive.estimate(square, seed), Halls.laid(square),
                hall -> hall.estimate(0, seed));
        }
    }

    private static void rangesAreKept() {
        int[][][] squares = {Halls.empty(1), Halls.empty(2), Halls.empty(3), Halls.loShu(), Halls.empty(4), Halls.four(), Halls.filled(3, 999)};
        for (int[][] square : squares) {
            Edges.range(CALL + "SIDE " + square.length + ", the seed", 0, 65535, Halls.laid(square),
                (hall, seed) -> hall.estimate(0, seed));
        }
    }

    private static void sidesAbove4AreRefused() {
        for (int side = 5; side <= 9; side++) {
            for (int seed : new int[] {0, 65535}) {
                Edges.refuses(CALL + "SIDE " + side + ", full, from " + seed, Check.ISE, Halls.laid(Halls.counted(side)),
                    hall -> hall.estimate(0, seed));
                Edges.refuses(CALL + "SIDE " + side + ", EMPTY, from " + seed, Check.ISE, Halls.laid(Halls.empty(side)),
                    hall -> hall.estimate(0, seed));
            }
        }
        Edges.refuses(CALL + "SIDE 5, a magic one", Check.ISE, Halls.laid(Naive.siege(5)), hall -> hall.estimate(0, 1));
    }

    private static void severalAreWrong() {
        for (int seed : new int[] {Integer.MIN_VALUE, -1, 65536, Integer.MAX_VALUE}) {
            Halls.Laid five = Halls.laid(Halls.counted(5));
            Edges.refuses(CALL + "SIDE 5 and the seed " + seed, Check.IAE, five, hall -> hall.estimate(0, seed));
            Edges.refuses(CALL + "no SQUARE and the seed " + seed, Check.IOOBE, five, hall -> hall.estimate(1, seed));
            Edges.refuses(CALL + "no SQUARE -1 and the seed " + seed, Check.IOOBE, five, hall -> hall.estimate(-1, seed));
            Edges.refuses(CALL + "a new object and the seed " + seed, Check.IOOBE, LoshuHall::new,
                hall -> hall.estimate(0, seed));
        }
    }

    private static void smallSides() {
        for (int seed : SEEDS) {
            estimateIs("the EMPTY SIDE 1", 1, Halls.empty(1), seed);
            estimateIs("the SIDE 1 with its 1", 1, Halls.filled(1, 1), seed);
            estimateIs("the SIDE 1 with a 2", 0, Halls.filled(1, 2), seed);
            estimateIs("the EMPTY SIDE 2", 0, Halls.empty(2), seed);
            estimateIs("the full SIDE 2", 0, Halls.counted(2), seed);
        }
    }

    private static void theEmptySide3FromEachState() {
        LoshuHall hall = Halls.of(Halls.empty(3));
        int above0 = 0;
        for (int seed = 0; seed <= 65535; seed++) {
            if (seed % 500 == 0) {
                hall = Halls.of(Halls.empty(3));
            }
            long due = Naive.estimate(Halls.empty(3), seed);
            above0 += due > 0 ? 1 : 0;
            Check.due(CALL + "the EMPTY SIDE 3, from " + seed, due, hall.estimate(0, seed));
        }
        Check.due(CALL + "so many from the EMPTY SIDE 3 end well", 326, above0);
        estimateIs("the EMPTY SIDE 3", 648, Halls.empty(3), 72);
        estimateIs("the EMPTY SIDE 3", 1260, Halls.empty(3), 1358);
        estimateIs("the EMPTY SIDE 3", 945, Halls.empty(3), 1709);
        estimateIs("the EMPTY SIDE 3, no number is left", 0, Halls.empty(3), 65535);
    }

    private static void theEmptySide4() {
        LoshuHall hall = Halls.of(Halls.empty(4));
        for (int seed = 0; seed < 400; seed++) {
            Check.due(CALL + "the EMPTY SIDE 4, from " + seed, Naive.estimate(Halls.empty(4), seed), hall.estimate(0, seed));
        }
        estimateIs("the EMPTY SIDE 4, one of two seeds that end well", 354816000L, Halls.empty(4), 6196);
        estimateIs("the EMPTY SIDE 4, the other one", 222393600L, Halls.empty(4), 62612);
        estimateIs("the EMPTY SIDE 4, the highest seed", 0, Halls.empty(4), 65535);
    }

    private static void fullOnes() {
        for (int seed : SEEDS) {
            estimateIs("full and magic, SIDE 3", 1, Halls.loShu(), seed);
            estimateIs("full and magic, SIDE 4", 1, Halls.four(), seed);
            int[][][] squares = Halls.oneLawShort();
            for (int i = 0; i < squares.length; i++) {
                estimateIs("full, all but " + SHORT[i], 0, squares[i], seed);
            }
        }
        for (int[][] square : Halls.threes()) {
            estimateIs("full and NORMAL, SIDE 3", Naive.magic(square) ? 1 : 0, square, 65535);
        }
        for (int p = 0; p < 16; p++) {
            estimateIs("one EMPTY point of a magic one, PLACE " + p, 1, Halls.with(Halls.four(), p, 0), 65535);
        }
    }

    private static void numbersAboveAndTwice() {
        for (int side = 1; side <= 4; side++) {
            int points = side * side;
            for (int number : new int[] {points, points + 1, 999}) {
                for (int p = 0; p < points; p++) {
                    isAsRead("SIDE " + side + ", " + number + " at " + p, Halls.with(Halls.empty(side), p, number));
                }
            }
        }
        isAsRead("SIDE 4, 16 twice", Halls.with(Halls.with(Halls.empty(4), 1, 16), 14, 16));
        isAsRead("SIDE 3, 5 twice, each line as is due", Halls.square(3, 5, 5, 5, 5, 5, 5, 5, 5, 0));
        for (int p = 1; p < 15; p++) {
            estimateIs("SIDE 4, EMPTY behind the PLACE " + p + ", where 16 is again", 0,
                Halls.with(Halls.with(Halls.four(), p, 16), p + 1, 0), 7);
        }
    }

    private static int[][] onLine(int side, int line, int... numbers) {
        int[][] square = Halls.empty(side);
        for (int i = 0; i < numbers.length; i++) {
            int row = line < side ? line : i;
            int column = line < side ? i : line < 2 * side ? line - side : line == 2 * side ? i : side - 1 - i;
            square[row][column] = numbers[i];
        }
        return square;
    }

    private static void linesThatAreFull() {
        int[][] threes = {{8, 1, 6}, {1, 8, 6}, {4, 9, 2}, {2, 5, 8}, {3, 5, 7}, {8, 1, 5}, {8, 1, 7}, {4, 9, 3}, {4, 9, 1}};
        for (int line = 0; line < 8; line++) {
            for (int[] three : threes) {
                isAsRead("SIDE 3, the line " + line + " sums to " + (three[0] + three[1] + three[2]), onLine(3, line, three));
            }
        }
        int[][] fours = {{16, 15, 2, 1}, {16, 3, 2, 13}, {16, 3, 2, 12}, {16, 3, 2, 14}};
        for (int line = 0; line < 10; line++) {
            for (int[] four : fours) {
                isAsRead("SIDE 4, the line " + line + " sums to " + (four[0] + four[1] + four[2] + four[3]),
                    onLine(4, line, four));
            }
        }
    }

    private static void linesWithEmptyPoints() {
        int[][] threes = {{8, 6, 0}, {9, 6, 0}, {9, 7, 0}, {6, 0, 8}, {6, 0, 9}, {0, 8, 7}, {0, 5, 9}, {8, 1, 0}, {0, 5, 8}, {4, 0, 2}};
        for (int line = 0; line < 8; line++) {
            for (int[] three : threes) {
                isAsRead("SIDE 3, the line " + line + " with an EMPTY point sums to " + (three[0] + three[1] + three[2]),
                    onLine(3, line, three));
            }
        }
        int[][] fours = {{16, 15, 2, 0}, {16, 15, 3, 0}, {16, 15, 4, 0}, {0, 16, 15, 3}, {16, 0, 0, 15}};
        for (int line = 0; line < 10; line++) {
            for (int[] four : fours) {
                int sum = four[0] + four[1] + four[2] + four[3];
                isAsRead("SIDE 4, the line " + line + " with an EMPTY point sums to " + sum, onLine(4, line, four));
            }
        }
    }

    private static void drawnSquares() {
        Draw draw = new Draw(15);
        int[][][] magic = {Halls.four(), Halls.brokenFour(), Halls.loShu()};
        int above = 0;
        for (int run = 0; run < 3000; run++) {
            int[][] full = magic[run % 3];
            above += isDrawn(draw.holed(full, draw.below(full.length == 4 ? 17 : 10)), draw.below(65536)) > 1 ? 1 : 0;
        }
        Check.holds(CALL + "some drawn ones are above 1", above > 50);
        for (int run = 0; run < 1500; run++) {
            int side = 1 + draw.below(4);
            int[][] a = Halls.empty(side);
            for (int numbers = 0; numbers < 3; numbers++) {
                isDrawn(a, draw.below(65536));
                a[draw.below(side)][draw.below(side)] = 1 + draw.below(side * side + 1);
            }
        }
    }

    private static long isDrawn(int[][] square, int seed) {
        long due = Naive.estimate(square, seed);
        Check.due(CALL + "a drawn SQUARE, from " + seed, due, Halls.of(square).estimate(0, seed));
        return due;
    }
}
