import java.util.ArrayList;
import java.util.List;

/** A second hall, by the plain words of Naive: each method answers, or throws, what is due of the same call of the class. */
final class Model {
    private final List<int[][]> squares = new ArrayList<>();

    // ---- what the calls require

    private int[][] squareOf(int square) {
        if (square < 0 || square >= squares.size()) {
            throw new IndexOutOfBoundsException();
        }
        return squares.get(square);
    }

    private int[][] withPoint(int square, int row, int column) {
        int[][] a = squareOf(square);
        if (Math.min(row, column) < 0 || Math.max(row, column) >= a.length) {
            throw new IndexOutOfBoundsException();
        }
        return a;
    }

    private static void between(int value, int lowest, int highest) {
        if (value < lowest || value > highest) {
            throw new IllegalArgumentException();
        }
    }

    private static void allowed(boolean is) {
        if (!is) {
            throw new IllegalStateException();
        }
    }

    private static boolean isWithin(int[][] a, int lowest, int highest) {
        for (int[] row : a) {
            for (int number : row) {
                if (number < lowest || number > highest) {
                    return false;
                }
            }
        }
        return true;
    }

    private int added(int[][] a) {
        allowed(squares.size() < Halls.MOST_SQUARES);
        squares.add(a);
        return squares.size() - 1;
    }

    // ---- what a test may ask it

    int count() {
        return squares.size();
    }

    int sideOf(int square) {
        return squares.get(square).length;
    }

    // ---- squares

    int square(int side) {
        between(side, 1, 9);
        return added(new int[side][side]);
    }

    int put(int square, int row, int column, int number) {
        int[][] a = withPoint(square, row, column);
        between(number, 0, 999);
        int old = a[row][column];
        a[row][column] = number;
        return old;
    }

    int at(int square, int row, int column) {
        return withPoint(square, row, column)[row][column];
    }

    int make(int maker, int side) {
        between(maker, 0, 3);
        between(side, 1, 9);
        String[] sides = {"13579", "48", "157", "6"};
        allowed(sides[maker].indexOf('0' + side) >= 0);
        return added(maker == 0 ? Naive.siege(side) : maker == 1 ? Naive.cross(side) : maker == 2 ? Naive.digits(side) : Naive.lux());
    }

    int laws(int square) {
        return Naive.laws(squareOf(square));
    }

    int sum(int square, int kind, int line) {
        int[][] a = squareOf(square);
        between(kind, 0, 3);
        between(line, 0, a.length - 1);
        return Naive.sum(a, kind, line);
    }

    // ---- changes, kin

    int change(int square, int change, int by) {
        int[][] a = squareOf(square);
        int n = a.length;
        between(change, 0, 5);
        between(by, 0, change == 0 ? 3 : change == 1 ? 1 : change == 2 ? 1998 : n - 1);
        int[][] b = Naive.changed(a, change, by);
        for (int p = 0; p < n * n; p++) {
            int number = b[p / n][p % n];
            allowed(a[p / n][p % n] == 0 || change != 2 || number >= 1 && number <= 999);
        }
        squares.set(square, b);
        return Naive.differing(a, b);
    }

    boolean same(int square, int other) {
        return Naive.kin(squareOf(square), squareOf(other));
    }

    int least(int square, int row, int column) {
        return Naive.least(withPoint(square, row, column))[row][column];
    }

    int kin(int square) {
        int[][] a = squareOf(square);
        int count = 0;
        for (int[][] form : Naive.forms(a)) {
            count += Naive.compare(form, a) == 0 ? 1 : 0;
        }
        return count;
    }

    int classes() {
        int count = 0;
        for (int s = 0; s < squares.size(); s++) {
            boolean isNew = true;
            for (int earlier = 0; earlier < s; earlier++) {
                isNew &= !Naive.kin(squares.get(earlier), squares.get(s));
            }
            count += isNew ? 1 : 0;
        }
        return count;
    }

    // ---- completions

    int completions(int square) {
        return completionsOf(squareOf(square)).size();
    }

    int completion(int square, int which, int row, int column) {
        int[][] a = withPoint(square, row, column);
        between(which, 0, Integer.MAX_VALUE);
        List<int[][]> all = completionsOf(a);
        return which < all.size() ? all.get(which)[row][column] : LoshuHall.NONE;
    }

    /** A square that does not FIT has no COMPLETIONS; that spares looking for them where it would take long. */
    private static List<int[][]> completionsOf(int[][] a) {
        int empty = 0;
        for (int[] row : a) {
            for (int number : row) {
                empty += number == 0 ? 1 : 0;
            }
        }
        allowed(a.length <= 4 && empty <= 9);
        return empty > 7 && a.length == 4 && !Naive.fits(a) ? new ArrayList<>() : Naive.completions(a);
    }

    long estimate(int square, int seed) {
        int[][] a = squareOf(square);
        between(seed, 0, 65535);
        allowed(a.length <= 4);
        return Naive.estimate(a, seed);
    }

    int givens(int square, boolean isSet) {
        int[][] a = squareOf(square);
        allowed(a.length <= 3 && Naive.normal(a) && Naive.magic(a));
        int set = Naive.givens(a);
        return isSet ? set : Integer.bitCount(set);
    }

    // ---- slips, pairs

    int slip(int square, int what) {
        int[][] a = squareOf(square);
        between(what, 0, 2);
        return Naive.slips(a)[what];
    }

    boolean orthogonal(int square, int other) {
        int[][] a = squareOf(square);
        int[][] b = squareOf(other);
        allowed(a.length == b.length);
        return Naive.orthogonal(a, b);
    }

    int stack(int square, int other) {
        int[][] a = squareOf(square);
        int[][] b = squareOf(other);
        int n = a.length;
        allowed(n == b.length && isWithin(a, 1, n) && isWithin(b, 1, n));
        int[][] stacked = new int[n][n];
        for (int p = 0; p < n * n; p++) {
            stacked[p / n][p % n] = n * (a[p / n][p % n] - 1) + b[p / n][p % n];
        }
        return added(stacked);
    }

    int product(int square, int other) {
        int[][] a = squareOf(square);
        int[][] b = squareOf(other);
        int m = b.length;
        int side = a.length * m;
        allowed(side <= 9 && isWithin(a, 1, 999) && isWithin(b, 1, 999));
        int[][] product = new int[side][side];
        for (int r = 0; r < side; r++) {
            for (int c = 0; c < side; c++) {
                product[r][c] = m * m * (a[r / m][c / m] - 1) + b[r % m][c % m];
            }
        }
        allowed(isWithin(product, 1, 999));
        return added(product);
    }

    int crossings(int square, int total) {
        int[][] a = squareOf(square);
        between(total, 0, 8991);
        allowed(a.length <= 6);
        return Naive.crossings(a, total);
    }

    int dimension(int side, int laws) {
        between(side, 1, 6);
        between(laws & ~62, 0, 0);
        return Naive.dimension(side, laws);
    }
}
