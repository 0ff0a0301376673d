import java.util.List;

/** Promise 13: completions. */
public final class Promise13CompletionsTest {
    private static final String CALL = "Promise 13, completions: ";
    private static final String[] SHORT = {"ROWS", "COLUMNS", "the DIAGONAL down to the right", "the DIAGONAL down to the left", "NORMAL"};

    public static void main(String[] args) {
        Edges.noSuchSquare(CALL, LoshuHall::completions);
        emptySquares();
        sidesAbove4AreRefused();
        emptyPointsAbove9AreRefused();
        noneEmpty();
        oneLawShort();
        numbersAboveAndTwice();
        knownCounts();
        Edges.eachSquare(CALL, unlikeSquares(), LoshuHall::completions);
        drawnSquares();
        Check.end("Promise13CompletionsTest");
    }

    private static int[][][] unlikeSquares() {
        return new int[][][] {Halls.loShu(), Halls.empty(3), Halls.empty(1), Halls.filled(3, 5), Halls.empty(4), Halls.four(),
            Halls.filled(2, 999), Halls.with(Halls.empty(3), 0, 2)};
    }

    private static void completionsAre(String what, int due, int[][] square) {
        Edges.answers(CALL + what, due, Halls.laid(square), hall -> hall.completions(0));
    }

    private static void areRefused(String what, int[][] square) {
        Edges.refuses(CALL + what, Check.ISE, Halls.laid(square), hall -> hall.completions(0));
    }

    private static void areAsRead(String what, int[][] square) {
        completionsAre(what, Naive.completions(square).size(), square);
    }

    private static void emptySquares() {
        completionsAre("all EMPTY, SIDE 1", 1, Halls.empty(1));
        completionsAre("all EMPTY, SIDE 2", 0, Halls.empty(2));
        completionsAre("all 9 EMPTY, SIDE 3", 8, Halls.empty(3));
        areRefused("all 16 EMPTY, SIDE 4", Halls.empty(4));
    }

    private static void sidesAbove4AreRefused() {
        for (int side = 5; side <= 9; side++) {
            areRefused("SIDE " + side + ", no point EMPTY", Halls.counted(side));
            areRefused("SIDE " + side + ", one point EMPTY", Halls.with(Halls.counted(side), 0, 0));
            areRefused("SIDE " + side + ", 9 points EMPTY", Halls.firstEmpty(Halls.counted(side), 9));
            areRefused("SIDE " + side + ", 10 points EMPTY", Halls.firstEmpty(Halls.counted(side), 10));
            areRefused("SIDE " + side + ", all EMPTY", Halls.empty(side));
        }
        areRefused("SIDE 5, a magic one", Naive.siege(5));
    }

    private static void emptyPointsAbove9AreRefused() {
        for (int[][] full : new int[][][] {Halls.four(), Halls.brokenFour()}) {
            for (int count = 0; count <= 16; count++) {
                String what = "SIDE 4, " + count + " points EMPTY, ";
                if (count > 9) {
                    areRefused(what + "the first ones", Halls.firstEmpty(full, count));
                    areRefused(what + "the last ones", Halls.lastEmpty(full, count));
                } else if (count < 9) {
                    areAsRead(what + "the first ones", Halls.firstEmpty(full, count));
                    areAsRead(what + "the last ones", Halls.lastEmpty(full, count));
                }
            }
        }
        completionsAre("SIDE 4, 9 points EMPTY, the first ones", 1, Halls.firstEmpty(Halls.four(), 9));
        completionsAre("SIDE 4, 9 points EMPTY, the last ones", 1, Halls.lastEmpty(Halls.four(), 9));
        completionsAre("SIDE 4, 9 points EMPTY, and 999", 0, Halls.with(Halls.firstEmpty(Halls.four(), 9), 15, 999));
        areRefused("SIDE 4, 10 points EMPTY, and 999", Halls.with(Halls.firstEmpty(Halls.four(), 10), 15, 999));
        areRefused("SIDE 4, 10 points EMPTY, and a number twice", Halls.with(Halls.firstEmpty(Halls.four(), 10), 15, 14));
        for (int count = 0; count <= 9; count++) {
            areAsRead("SIDE 3, " + count + " points EMPTY, the first ones", Halls.firstEmpty(Halls.loShu(), count));
            areAsRead("SIDE 3, " + count + " points EMPTY, the last ones", Halls.lastEmpty(Halls.loShu(), count));
        }
    }

    private static void noneEmpty() {
        completionsAre("SIDE 1, its 1", 1, Halls.filled(1, 1));
        completionsAre("SIDE 1, a 2", 0, Halls.filled(1, 2));
        completionsAre("SIDE 1, 999", 0, Halls.filled(1, 999));
        completionsAre("SIDE 2, full", 0, Halls.counted(2));
        completionsAre("SIDE 3, full and magic", 1, Halls.loShu());
        completionsAre("SIDE 4, full and magic", 1, Halls.four());
        completionsAre("SIDE 3, full and not magic", 0, Halls.counted(3));
        completionsAre("SIDE 4, full and not magic", 0, Halls.counted(4));
    }

    private static void oneLawShort() {
        int[][][] squares = Halls.oneLawShort();
        for (int i = 0; i < squares.length; i++) {
            completionsAre("full, all but " + SHORT[i], 0, squares[i]);
        }
        for (int count = 1; count <= 9; count++) {
            for (int i = 0; i < squares.length; i++) {
                areAsRead("all but " + SHORT[i] + ", then " + count + " EMPTY", Halls.firstEmpty(squares[i], count));
            }
        }
        int index = 0;
        for (int[][] square : Halls.threes()) {
            completionsAre("full and NORMAL, SIDE 3, other sums, " + index, index == 0 ? 1 : 0, square);
            completionsAre("full and NORMAL, SIDE 3, other sums, the middle EMPTY, " + index, index == 0 ? 1 : 0, Halls.with(square, 4, 0));
            index++;
        }
        for (int down = 0; down < 4; down++) {
            for (int right = 0; right < 4; right++) {
                int[][] shifted = Naive.changed(Naive.changed(Halls.four(), LoshuHall.DOWN, down), LoshuHall.RIGHT, right);
                areAsRead("SIDE 4, shifted by " + down + " and " + right, shifted);
            }
        }
    }

    private static void numbersAboveAndTwice() {
        for (int side = 1; side <= 4; side++) {
            int points = side * side;
            for (int number : new int[] {points, points + 1, points + 2, 998, 999}) {
                for (int p = 0; p < points; p++) {
                    int[][] square = Halls.with(side == 4 ? Halls.firstEmpty(Halls.four(), 4) : Halls.empty(side), p, number);
                    areAsRead("SIDE " + side + ", " + number + " at " + p, square);
                }
            }
        }
        completionsAre("5 twice", 0, Halls.square(3, 5, 0, 0, 0, 5, 0, 0, 0, 0));
        completionsAre("16 twice", 0, Halls.with(Halls.firstEmpty(Halls.four(), 4), 15, 15));
    }

    private static void knownCounts() {
        completionsAre("5 in the middle", 8, Halls.with(Halls.empty(3), 4, 5));
        completionsAre("4 in the middle", 0, Halls.with(Halls.empty(3), 4, 4));
        completionsAre("2 in the corner", 2, Halls.with(Halls.empty(3), 0, 2));
        completionsAre("1 in the corner", 0, Halls.with(Halls.empty(3), 0, 1));
        completionsAre("9 at a side", 2, Halls.with(Halls.empty(3), 1, 9));
        completionsAre("a row that sums to less than is due", 0, Halls.square(3, 8, 1, 5, 0, 0, 0, 0, 0, 0));
        completionsAre("a row that sums to more than is due", 0, Halls.square(3, 8, 1, 7, 0, 0, 0, 0, 0, 0));
        completionsAre("a row that sums to what is due with an EMPTY point", 0, Halls.square(3, 0, 0, 0, 9, 6, 0, 0, 0, 0));
        completionsAre("SIDE 4, 9 points EMPTY, two of them", 2,
            Halls.square(4, 1, 0, 11, 0, 12, 0, 2, 0, 6, 0, 16, 0, 15, 0, 0, 0));
        completionsAre("SIDE 4, 9 points EMPTY, two of them", 2,
            Halls.square(4, 16, 3, 0, 0, 0, 0, 11, 8, 9, 6, 0, 0, 0, 0, 14, 0));
    }

    private static void drawnSquares() {
        Draw draw = new Draw(13);
        int[][][] magic = {Halls.four(), Halls.brokenFour(), Halls.loShu()};
        for (int run = 0; run < 150; run++) {
            int[][] a = magic[run % 3];
            isAsRead(draw.holed(a, draw.below(7)));
            int[][] b = draw.holed(a, 1 + draw.below(5));
            int n = a.length;
            b[draw.below(n)][draw.below(n)] = 1 + draw.below(n * n + 1);
            isAsRead(b);
        }
        for (int run = 0; run < 6; run++) {
            isAsRead(draw.holed(magic[run % 3], 8));
        }
    }

    private static void isAsRead(int[][] square) {
        List<int[][]> due = Naive.completions(square);
        Check.due(CALL + "a drawn SQUARE", due.size(), Halls.of(square).completions(0));
    }
}
