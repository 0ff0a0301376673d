import java.util.List;

/** Promise 14: completion. */
public final class Promise14CompletionTest {
    private static final String CALL = "Promise 14, completion: ";

    public static void main(String[] args) {
        Edges.noSuchSquare(CALL, (hall, square) -> hall.completion(square, 0, 0, 0));
        Edges.noSuchPoint(CALL, (hall, row, column) -> hall.completion(0, 0, row, column));
        Edges.eachSquare(CALL, Halls.forms(8), (hall, square) -> hall.completion(square, 0, 0, 1));
        Edges.eachSquare(CALL, unlikeSquares(), (hall, square) -> hall.completion(square, 1, 0, 0));
        pointsOfSmallSidesAreThere();
        theEightOfTheSide3InOrder();
        thoseThatAreNot();
        whichBelow0IsRefused();
        sidesAbove4AreRefused();
        emptyPointsAbove9AreRefused();
        severalAreWrong();
        noneEmpty();
        drawnSquares();
        Check.end("Promise14CompletionTest");
    }

    private static int[][][] unlikeSquares() {
        return new int[][][] {Halls.loShu(), Halls.empty(3), Halls.empty(1), Halls.filled(3, 5), Halls.empty(4), Halls.four(),
            Halls.filled(2, 999), Halls.with(Halls.empty(3), 0, 4)};
    }

    private static void isTold(String what, int due, int[][] square, int which, int place) {
        int side = square.length;
        Edges.answers(CALL + what, due, Halls.laid(square), hall -> hall.completion(0, which, place / side, place % side));
    }

    private static void isRefused(String what, String exception, int[][] square, int which, int row, int column) {
        Edges.refuses(CALL + what, exception, Halls.laid(square), hall -> hall.completion(0, which, row, column));
    }

    private static void pointsOfSmallSidesAreThere() {
        int[][][] squares = {Halls.filled(1, 1), Halls.counted(2), Halls.loShu(), Halls.four()};
        for (int[][] square : squares) {
            int side = square.length;
            for (int p = 0; p < side * side; p++) {
                int due = side == 2 ? LoshuHall.NONE : square[p / side][p % side];
                isTold("a full one of the SIDE " + side + ", PLACE " + p, due, square, 0, p);
            }
        }
    }

    private static void theEightOfTheSide3InOrder() {
        int[][] due = {
            {2, 7, 6, 9, 5, 1, 4, 3, 8}, {2, 9, 4, 7, 5, 3, 6, 1, 8}, {4, 3, 8, 9, 5, 1, 2, 7, 6}, {4, 9, 2, 3, 5, 7, 8, 1, 6},
            {6, 1, 8, 7, 5, 3, 2, 9, 4}, {6, 7, 2, 1, 5, 9, 8, 3, 4}, {8, 1, 6, 3, 5, 7, 4, 9, 2}, {8, 3, 4, 1, 5, 9, 6, 7, 2},
        };
        for (int which = 0; which < 8; which++) {
            for (int p = 0; p < 9; p++) {
                isTold("number " + which + " of the EMPTY SIDE 3, PLACE " + p, due[which][p], Halls.empty(3), which, p);
            }
        }
        int[][] given = Halls.with(Halls.empty(3), 8, 8);
        for (int p = 0; p < 9; p++) {
            isTold("the first with 8 in the last corner, PLACE " + p, due[0][p], given, 0, p);
            isTold("the second with 8 in the last corner, PLACE " + p, due[1][p], given, 1, p);
        }
    }

    private static void thoseThatAreNot() {
        int highest = Integer.MAX_VALUE;
        for (int which : new int[] {8, 9, 1000000, highest - 1, highest}) {
            isTold("no number " + which + " of 8", LoshuHall.NONE, Halls.empty(3), which, 0);
            isTold("no number " + which + " of 8, the middle that all have", LoshuHall.NONE,
                Halls.with(Halls.empty(3), 4, 5), which, 4);
        }
        for (int which : new int[] {1, 2, highest}) {
            isTold("no number " + which + " of 1, SIDE 1", LoshuHall.NONE, Halls.empty(1), which, 0);
            isTold("no number " + which + " of 1, full", LoshuHall.NONE, Halls.loShu(), which, 8);
        }
        for (int which : new int[] {0, 1, highest}) {
            isTold("no number " + which + " of none, SIDE 2", LoshuHall.NONE, Halls.empty(2), which, 3);
            isTold("no number " + which + " of none, a point that is not EMPTY", LoshuHall.NONE,
                Halls.with(Halls.empty(3), 4, 4), which, 4);
            isTold("no number " + which + " of none, 999", LoshuHall.NONE, Halls.filled(1, 999), which, 0);
        }
        isTold("the only one of the EMPTY SIDE 1", 1, Halls.empty(1), 0, 0);
    }

    private static void whichBelow0IsRefused() {
        for (int which : new int[] {Integer.MIN_VALUE, Integer.MIN_VALUE + 1, -2, -1}) {
            for (int[][] square : new int[][][] {Halls.empty(1), Halls.empty(2), Halls.empty(3), Halls.loShu(), Halls.four()}) {
                isRefused("which " + which + ", SIDE " + square.length, Check.IAE, square, which, 0, 0);
            }
        }
    }

    private static void sidesAbove4AreRefused() {
        for (int side = 5; side <= 9; side++) {
            int last = side - 1;
            isRefused("SIDE " + side + ", no point EMPTY", Check.ISE, Halls.counted(side), 0, last, last);
            isRefused("SIDE " + side + ", 9 points EMPTY", Check.ISE, Halls.firstEmpty(Halls.counted(side), 9),
                Integer.MAX_VALUE, 0, 0);
            isRefused("SIDE " + side + ", all EMPTY", Check.ISE, Halls.empty(side), 0, 0, last);
        }
        isRefused("SIDE 5, a magic one", Check.ISE, Naive.siege(5), 0, 0, 0);
    }

    private static void emptyPointsAbove9AreRefused() {
        int[][] full = Halls.four();
        isTold("SIDE 4, 9 points EMPTY, one that is given", 1, Halls.firstEmpty(full, 9), 0, 15);
        int[][] two = Halls.square(4, 16, 3, 0, 0, 0, 0, 11, 8, 9, 6, 0, 0, 0, 0, 14, 0);
        int[] first = {16, 3, 2, 13, 5, 10, 11, 8, 9, 6, 7, 12, 4, 15, 14, 1};
        int[] second = {16, 3, 5, 10, 2, 13, 11, 8, 9, 6, 4, 15, 7, 12, 14, 1};
        for (int p = 0; p < 16; p++) {
            isTold("SIDE 4, 9 points EMPTY, number 0, PLACE " + p, first[p], two, 0, p);
            isTold("SIDE 4, 9 points EMPTY, number 1, PLACE " + p, second[p], two, 1, p);
            isTold("SIDE 4, 9 points EMPTY, no number 2, PLACE " + p, LoshuHall.NONE, two, 2, p);
        }
        for (int count = 10; count <= 16; count++) {
            isRefused("SIDE 4, the first " + count + " points EMPTY", Check.ISE, Halls.firstEmpty(full, count), 0, 3, 3);
            isRefused("SIDE 4, the last " + count + " points EMPTY", Check.ISE, Halls.lastEmpty(full, count),
                Integer.MAX_VALUE, 0, 0);
        }
    }

    private static void severalAreWrong() {
        int[][] five = Halls.counted(5);
        int[][] tenEmpty = Halls.firstEmpty(Halls.four(), 10);
        for (int which : new int[] {Integer.MIN_VALUE, -1}) {
            Edges.refuses(CALL + "no SQUARE and which " + which, Check.IOOBE, Halls.laid(Halls.loShu()),
                hall -> hall.completion(1, which, 0, 0));
            Edges.refuses(CALL + "a new object and which " + which, Check.IOOBE, LoshuHall::new,
                hall -> hall.completion(0, which, 0, 0));
            isRefused("no row and which " + which, Check.IOOBE, Halls.loShu(), which, 3, 0);
            isRefused("no column and which " + which, Check.IOOBE, Halls.loShu(), which, 0, -1);
            isRefused("SIDE 5, no row and which " + which, Check.IOOBE, five, which, 5, 0);
            isRefused("SIDE 5, no column and which " + which, Check.IOOBE, five, which, 0, 5);
            isRefused("SIDE 5 and which " + which, Check.IAE, five, which, 0, 0);
            isRefused("10 points EMPTY and which " + which, Check.IAE, tenEmpty, which, 0, 0);
            isRefused("10 points EMPTY, no column and which " + which, Check.IOOBE, tenEmpty, which, 0, 4);
        }
        isRefused("SIDE 5 and no row", Check.IOOBE, five, 0, -1, 0);
        isRefused("SIDE 5 and no column", Check.IOOBE, five, 0, 0, 5);
        isRefused("10 points EMPTY and no row", Check.IOOBE, tenEmpty, 0, 4, 0);
        isRefused("10 points EMPTY and no column", Check.IOOBE, tenEmpty, 0, 0, -1);
    }

    private static void noneEmpty() {
        for (int[][] square : Halls.threes()) {
            boolean isMagic = Naive.magic(square);
            isTold("a full and NORMAL one of the SIDE 3", isMagic ? square[2][2] : LoshuHall.NONE, square, 0, 8);
        }
        for (int[][] square : Halls.oneLawShort()) {
            isTold("a full one that is short of one law", LoshuHall.NONE, square, 0, 0);
        }
        isTold("a full one that is magic", 8, Halls.loShu(), 0, 0);
        isTold("a full one that is not NORMAL", LoshuHall.NONE, Halls.with(Halls.four(), 0, 17), 0, 0);
    }

    private static void drawnSquares() {
        Draw draw = new Draw(14);
        int[][][] magic = {Halls.four(), Halls.brokenFour(), Halls.loShu()};
        for (int run = 0; run < 120; run++) {
            allAreTold(draw.holed(magic[run % 3], draw.below(7)));
        }
        for (int run = 0; run < 6; run++) {
            allAreTold(draw.holed(magic[run % 3], 8));
        }
        allAreTold(Halls.square(4, 1, 0, 11, 0, 12, 0, 2, 0, 6, 0, 16, 0, 15, 0, 0, 0));
    }

    private static void allAreTold(int[][] square) {
        List<int[][]> due = Naive.completions(square);
        int n = square.length;
        for (int which = 0; which <= due.size() && which < 20; which++) {
            LoshuHall hall = Halls.of(square);
            for (int p = 0; p < n * n; p++) {
                int number = which < due.size() ? due.get(which)[p / n][p % n] : LoshuHall.NONE;
                Check.due(CALL + "drawn, number " + which + " of " + due.size() + ", PLACE " + p, number,
                    hall.completion(0, which, p / n, p % n));
            }
        }
    }
}
