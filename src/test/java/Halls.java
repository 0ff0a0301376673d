import java.util.ArrayList;
import java.util.Arrays;
import java.util.List;

/** Halls that are laid for a test, the same each time: what a call leaves is held against a hall that was not asked. */
final class Halls {
    static final int MOST_CALLS = 512;
    static final int MOST_SQUARES = 8;

    private Halls() { }

    interface Laid {
        LoshuHall hall();
    }

    static LoshuHall of(int[][]... squares) {
        LoshuHall hall = new LoshuHall();
        for (int[][] square : squares) {
            lay(hall, square);
        }
        return hall;
    }

    static Laid laid(int[][]... squares) {
        return () -> of(squares);
    }

    static int[][] square(int side, int... numbers) {
        int[][] a = new int[side][side];
        for (int p = 0; p < side * side; p++) {
            a[p / side][p % side] = numbers[p];
        }
        return a;
    }

    static int[][] empty(int side) {
        return new int[side][side];
    }

    static int[][] filled(int side, int number) {
        int[][] a = new int[side][side];
        for (int[] row : a) {
            Arrays.fill(row, number);
        }
        return a;
    }

    /** The numbers from 1 on, by PLACES. */
    static int[][] counted(int side) {
        int[][] a = new int[side][side];
        for (int p = 0; p < side * side; p++) {
            a[p / side][p % side] = p + 1;
        }
        return a;
    }

    /** The square with another number at one PLACE. */
    static int[][] with(int[][] square, int place, int number) {
        int[][] a = Naive.copy(square);
        a[place / a.length][place % a.length] = number;
        return a;
    }

    static int[][] loShu() {
        return square(3, 8, 1, 6, 3, 5, 7, 4, 9, 2);
    }

    /** A magic square of the side 4, with the numbers 1 to 16. */
    static int[][] four() {
        return square(4, 16, 3, 2, 13, 5, 10, 11, 8, 9, 6, 7, 12, 4, 15, 14, 1);
    }

    /** One whose broken diagonals sum alike as well. */
    static int[][] brokenFour() {
        return square(4, 1, 8, 11, 14, 12, 13, 2, 7, 6, 3, 16, 9, 15, 10, 5, 4);
    }

    /** NORMAL ones of the side 3, each without one of ROWS, COLUMNS, one DIAGONAL and the other; then one that is not NORMAL. */
    static int[][][] oneLawShort() {
        return new int[][][] {
            square(3, 1, 2, 4, 9, 6, 3, 5, 7, 8),
            square(3, 1, 6, 8, 3, 5, 7, 2, 4, 9),
            square(3, 1, 6, 8, 9, 2, 4, 5, 7, 3),
            square(3, 2, 4, 9, 6, 8, 1, 7, 3, 5),
            filled(3, 5),
        };
    }

    /**
     * Of the squares with the numbers 1 to 9, each once, one for each set of lines, of the rows, the columns and the two
     * DIAGONALS, that can sum to other than 15: the first of them is magic.
     */
    static List<int[][]> threes() {
        int[][][] bySet = new int[256][][];
        sortBySet(new int[9], 0, bySet);
        List<int[][]> threes = new ArrayList<>();
        for (int[][] square : bySet) {
            if (square != null) {
                threes.add(square);
            }
        }
        return threes;
    }

    private static void sortBySet(int[] numbers, int place, int[][][] bySet) {
        if (place == 9) {
            int[][] square = square(3, numbers);
            int set = 0;
            for (int line = 0; line < 3; line++) {
                set += (Naive.sum(square, 0, line) == 15 ? 0 : 1 << line) + (Naive.sum(square, 1, line) == 15 ? 0 : 8 << line);
            }
            set += (Naive.sum(square, 2, 0) == 15 ? 0 : 64) + (Naive.sum(square, 3, 2) == 15 ? 0 : 128);
            bySet[set] = bySet[set] == null ? square : bySet[set];
            return;
        }
        for (int number = 1; number <= 9; number++) {
            int wanted = number;
            if (Arrays.stream(numbers, 0, place).noneMatch(there -> there == wanted)) {
                numbers[place] = number;
                sortBySet(numbers, place + 1, bySet);
            }
        }
    }

    /** The first so many points are EMPTY. */
    static int[][] firstEmpty(int[][] square, int count) {
        int[][] a = Naive.copy(square);
        for (int p = 0; p < count; p++) {
            a[p / a.length][p % a.length] = 0;
        }
        return a;
    }

    /** The last so many points are EMPTY. */
    static int[][] lastEmpty(int[][] square, int count) {
        int[][] a = Naive.copy(square);
        for (int p = a.length * a.length - count; p < a.length * a.length; p++) {
            a[p / a.length][p % a.length] = 0;
        }
        return a;
    }

    /** The number r and f times c, modulo the side, and 1. */
    static int[][] latin(int side, int f) {
        int[][] a = new int[side][side];
        for (int p = 0; p < side * side; p++) {
            a[p / side][p % side] = (p / side + f * (p % side)) % side + 1;
        }
        return a;
    }

    /** So many of the eight FORMS of one square: they all keep the same LAWS, and no two are alike. */
    static int[][][] forms(int count) {
        return Naive.forms(loShu()).subList(0, count).toArray(new int[0][][]);
    }

    /** Points that are EMPTY in a new square are not put: that spares calls. Returns the square's number. */
    static int lay(LoshuHall hall, int[][] a) {
        int square = hall.square(a.length);
        for (int p = 0; p < a.length * a.length; p++) {
            int number = a[p / a.length][p % a.length];
            if (number != 0) {
                hall.put(square, p / a.length, p % a.length, number);
            }
        }
        return square;
    }

    static int[][] read(LoshuHall hall, int square, int side) {
        int[][] a = new int[side][side];
        for (int p = 0; p < side * side; p++) {
            a[p / side][p % side] = hall.at(square, p / side, p % side);
        }
        return a;
    }

    /** 0 if there is no such square. */
    static int sideOf(LoshuHall hall, int square) {
        int side = 0;
        while (side < 10 && isThere(hall, square, side)) {
            side++;
        }
        return side;
    }

    static int countOf(LoshuHall hall) {
        int count = 0;
        while (count < 10 && isThere(hall, count, 0)) {
            count++;
        }
        return count;
    }

    private static boolean isThere(LoshuHall hall, int square, int row) {
        return !Check.outcome(() -> hall.at(square, row, row)).equals(Check.IOOBE);
    }

    static boolean isLike(int[][] a, LoshuHall hall, int square) {
        return sideOf(hall, square) == a.length && Arrays.deepEquals(a, read(hall, square, a.length));
    }
}
