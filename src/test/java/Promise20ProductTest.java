/** Promise 20: product. */
public final class Promise20ProductTest {
    private static final String CALL = "Promise 20, product: ";

    public static void main(String[] args) {
        Edges.noSuchSquare(CALL + "the first, ", (hall, square) -> hall.product(square, 0));
        Edges.noSuchSquare(CALL + "the second, ", (hall, square) -> hall.product(0, square));
        Edges.noSuchSquare(CALL + "both, ", (hall, square) -> hall.product(square, square));
        eachTwoSides();
        examples();
        divisionsAndRemainders();
        squaresAreAskedByTheirNumbers();
        emptyPointsAreRefused();
        numbersAbove999AreRefused();
        aNinthIsRefused();
        aMissingSquareComesAheadOfTheOthers();
        Check.end("Promise20ProductTest");
    }

    private static int[][] multiplied(int[][] one, int[][] other) {
        int m = other.length;
        int side = one.length * m;
        int[][] due = new int[side][side];
        for (int r = 0; r < side; r++) {
            for (int c = 0; c < side; c++) {
                due[r][c] = m * m * (one[r / m][c / m] - 1) + other[r % m][c % m];
            }
        }
        return due;
    }

    private static void isProduct(String what, int[][] one, int[][] other) {
        Edges.adds(CALL + what, multiplied(one, other), Halls.laid(one, other), hall -> hall.product(0, 1));
    }

    private static void isRefused(String what, int[][] one, int[][] other) {
        Edges.refuses(CALL + what, Check.ISE, Halls.laid(one, other), hall -> hall.product(0, 1));
    }

    private static void eachTwoSides() {
        for (int one = 1; one <= 9; one++) {
            for (int other = 1; other <= 9; other++) {
                String what = "the SIDES " + one + " and " + other;
                if (one * other <= 9) {
                    isProduct(what, Halls.counted(one), Halls.counted(other));
                    isProduct(what + ", all 1", Halls.filled(one, 1), Halls.filled(other, 1));
                } else {
                    isRefused(what, Halls.filled(one, 1), Halls.filled(other, 1));
                }
            }
        }
        Draw draw = new Draw(20);
        for (int one = 1; one <= 9; one++) {
            for (int other = 1; one * other <= 9; other++) {
                isProduct("drawn, the SIDES " + one + " and " + other, draw.square(one, other > 3 ? 5 : 80, 99999),
                    draw.square(other, 81, 99999));
            }
        }
    }

    private static void examples() {
        Edges.adds(CALL + "SIDES 2 and 1", Halls.square(2, 7, 8, 9, 10),
            Halls.laid(Halls.square(2, 1, 2, 3, 4), Halls.filled(1, 7)), hall -> hall.product(0, 1));
        Edges.adds(CALL + "SIDES 1 and 2", Halls.square(2, 25, 26, 27, 28),
            Halls.laid(Halls.square(2, 1, 2, 3, 4), Halls.filled(1, 7)), hall -> hall.product(1, 0));
        Edges.adds(CALL + "one with itself", Halls.square(4, 1, 2, 5, 6, 3, 4, 7, 8, 9, 10, 13, 14, 11, 12, 15, 16),
            Halls.laid(Halls.counted(2)), hall -> hall.product(0, 0));
        Edges.adds(CALL + "SIEGE with itself", multiplied(Halls.loShu(), Halls.loShu()), Halls.laid(Halls.loShu()),
            hall -> hall.product(0, 0));
        LoshuHall hall = Halls.of(Halls.loShu());
        hall.product(0, 0);
        Check.due(CALL + "SIEGE with itself, the first point", 9 * 7 + 8, hall.at(1, 0, 0));
        Check.due(CALL + "SIEGE with itself, the laws", 111, hall.laws(1));
    }

    private static void divisionsAndRemainders() {
        int[][] first = Halls.square(3, 11, 12, 13, 14, 15, 16, 17, 18, 19);
        int[][] second = Halls.square(3, 1, 2, 3, 4, 5, 6, 7, 8, 9);
        LoshuHall hall = Halls.of(first, second);
        hall.product(0, 1);
        Check.due(CALL + "the row 2 divided by 3 is 0, its remainder 2", 9 * 10 + 7, hall.at(2, 2, 0));
        Check.due(CALL + "the row 3 divided by 3 is 1, its remainder 0", 9 * 13 + 1, hall.at(2, 3, 0));
        Check.due(CALL + "the column 5 divided by 3 is 1, its remainder 2", 9 * 11 + 3, hall.at(2, 0, 5));
        Check.due(CALL + "the column 6 divided by 3 is 2, its remainder 0", 9 * 12 + 1, hall.at(2, 0, 6));
        Check.due(CALL + "the last row and column", 9 * 18 + 9, hall.at(2, 8, 8));
    }

    private static void squaresAreAskedByTheirNumbers() {
        int[][][] squares = Halls.forms(7);
        for (int one : new int[] {0, 3, 6}) {
            for (int other = 0; other < 7; other++) {
                int o = other;
                Edges.adds(CALL + one + " and " + o + " of 7", multiplied(squares[one], squares[o]), Halls.laid(squares),
                    hall -> hall.product(one, o));
            }
        }
    }

    private static void emptyPointsAreRefused() {
        for (int one = 1; one <= 9; one++) {
            for (int other = 1; one * other <= 9; other++) {
                String what = "the SIDES " + one + " and " + other;
                int[][] first = Halls.filled(one, 1);
                int[][] second = Halls.filled(other, 1);
                isRefused(what + ", EMPTY at the first point of the first", Halls.with(first, 0, 0), second);
                isRefused(what + ", EMPTY at the last point of the first", Halls.with(first, one * one - 1, 0), second);
                isRefused(what + ", EMPTY at the first point of the second", first, Halls.with(second, 0, 0));
                isRefused(what + ", EMPTY at the last point of the second", first, Halls.with(second, other * other - 1, 0));
                isRefused(what + ", the first all EMPTY", Halls.empty(one), second);
                isRefused(what + ", the second all EMPTY", first, Halls.empty(other));
            }
        }
    }

    private static void numbersAbove999AreRefused() {
        for (int n = 1; n <= 9; n++) {
            for (int m = 1; n * m <= 9; m++) {
                int points = m * m;
                int large = m == 1 ? 999 : 999 / points;
                int small = 999 - points * (large - 1);
                for (int p : new int[] {0, n * n - 1}) {
                    for (int q : new int[] {0, points - 1}) {
                        String what = "the SIDES " + n + " and " + m + ", the PLACES " + p + " and " + q + ", ";
                        int[][] first = Halls.with(Halls.filled(n, 1), p, large);
                        int[][] second = Halls.with(Halls.filled(m, 1), q, small);
                        isProduct(what + "just 999", first, second);
                        isRefused(what + "1000", first, Halls.with(second, q, small + 1));
                        if (large < 999) {
                            isRefused(what + "the first one higher", Halls.with(first, p, large + 1), second);
                        }
                    }
                }
                isRefused("the SIDES " + n + " and " + m + ", 999 and 999", Halls.filled(n, 999), Halls.filled(m, 999));
                isProduct("the SIDES " + n + " and " + m + ", 1 and 999", Halls.filled(n, 1), Halls.filled(m, 999));
                isRefused("the SIDES " + n + " and " + m + ", 2 and 999", Halls.filled(n, 2), Halls.filled(m, 999));
            }
        }
    }

    private static void aNinthIsRefused() {
        int[][][] squares = Halls.forms(8);
        Edges.refuses(CALL + "a ninth", Check.ISE, Halls.laid(squares), hall -> hall.product(0, 7));
        Edges.refuses(CALL + "a ninth, one with itself", Check.ISE, Halls.laid(squares), hall -> hall.product(7, 7));
        squares[7] = Halls.empty(3);
        Edges.refuses(CALL + "a ninth with EMPTY points", Check.ISE, Halls.laid(squares), hall -> hall.product(0, 7));
        LoshuHall hall = Halls.of(Halls.loShu());
        for (int number = 1; number < 8; number++) {
            Check.due(CALL + "there is room for the number " + number, number, hall.product(0, 0));
        }
        Check.fails(CALL + "no room for a ninth", Check.ISE, () -> hall.product(0, 0));
    }

    private static void aMissingSquareComesAheadOfTheOthers() {
        Halls.Laid full = Halls.laid(Halls.forms(8));
        for (int missing : new int[] {Integer.MIN_VALUE, -1, 8, Integer.MAX_VALUE}) {
            Edges.refuses(CALL + "a ninth, no first " + missing, Check.IOOBE, full, hall -> hall.product(missing, 0));
            Edges.refuses(CALL + "a ninth, no second " + missing, Check.IOOBE, full, hall -> hall.product(0, missing));
            Edges.refuses(CALL + "the first EMPTY, no second " + missing, Check.IOOBE, Halls.laid(Halls.empty(3)),
                hall -> hall.product(0, missing));
            Edges.refuses(CALL + "the second EMPTY, no first " + missing, Check.IOOBE, Halls.laid(Halls.empty(3)),
                hall -> hall.product(missing, 0));
            Edges.refuses(CALL + "the SIDE 9 and no second " + missing, Check.IOOBE, Halls.laid(Halls.filled(9, 999)),
                hall -> hall.product(0, missing));
        }
    }
}
