import java.util.ArrayList;
import java.util.Arrays;
import java.util.List;

/** Promises 2 to 22: runs of 512 drawn calls on one object, right and wrong ones, each held against the document's words. */
public final class RunsTest {
    private static final int RUNS = 40;
    private static final int CALLS_THAT_READ = 64;
    private static final String[] METHODS = {"square", "make", "stack", "product", "put", "at", "laws", "sum", "change", "same", "least",
        "kin", "classes", "completions", "completion", "estimate", "givens", "slip", "orthogonal", "crossings", "dimension"};

    private final Draw draw;
    private final LoshuHall hall = new LoshuHall();
    private final List<int[][]> squares = new ArrayList<>();

    private RunsTest(int seed) {
        draw = new Draw(seed);
    }

    public static void main(String[] args) {
        for (int run = 0; run < RUNS; run++) {
            new RunsTest(run).run(run);
        }
        Check.end("RunsTest");
    }

    /** The last ones of the 512 read points that are drawn: more calls than these are free to answer otherwise. */
    private void run(int run) {
        for (int i = 0; i < Halls.MOST_CALLS; i++) {
            int kind = i < 12 ? draw.below(3) * 3 / 2 : i < Halls.MOST_CALLS - CALLS_THAT_READ ? draw.below(METHODS.length) : 5;
            int[] a = {drawn(9), drawn(kind == 20 ? 63 : 8), drawn(6), draw.below(9) == 0 ? drawn(1000) : drawn(17)};
            String got = Check.outcome(() -> asked(kind, a));
            String due = Check.outcome(() -> due(kind, a));
            String what = "run " + run + ", call " + i + ", " + METHODS[kind] + " of some of " + Arrays.toString(a);
            Check.holds(what + " gave " + got + ", due is " + due, got.equals(due));
        }
    }

    /** Mostly small and right, now and then one beyond, or far off. */
    private int drawn(int most) {
        int way = draw.below(40);
        if (way == 0) {
            return -1 - draw.below(2);
        }
        return way == 1 ? Integer.MAX_VALUE - draw.below(2) : way == 2 ? Integer.MIN_VALUE + draw.below(2) : draw.below(most + 1);
    }

    private long asked(int kind, int[] a) {
        switch (kind) {
            case 0: return hall.square(a[0]);
            case 1: return hall.make(a[0] % 5, a[1]);
            case 2: return hall.stack(a[0], a[1]);
            case 3: return hall.product(a[0], a[1]);
            case 4: return hall.put(a[0], a[1], a[2], a[3]);
            case 5: return hall.at(a[0], a[1], a[2]);
            case 6: return hall.laws(a[0]);
            case 7: return hall.sum(a[0], a[2], a[1]);
            case 8: return hall.change(a[0], a[2], a[2] == 2 ? a[3] : a[1]);
            case 9: return Check.bit(hall.same(a[0], a[1]));
            case 10: return hall.least(a[0], a[1], a[2]);
            case 11: return hall.kin(a[0]);
            case 12: return hall.classes();
            case 13: return hall.completions(a[0]);
            case 14: return hall.completion(a[0], a[3], a[1], a[2]);
            case 15: return hall.estimate(a[0], a[3] * 64);
            case 16: return hall.givens(a[0], a[1] % 2 == 0);
            case 17: return hall.slip(a[0], a[2]);
            case 18: return Check.bit(hall.orthogonal(a[0], a[1]));
            case 19: return hall.crossings(a[0], a[3]);
            default: return hall.dimension(a[0], a[1]);
        }
    }

    private long due(int kind, int[] a) {
        switch (kind) {
            case 0: return added(between(a[0], 1, 9));
            case 1: return made(a[0] % 5, a[1]);
            case 2: return stacked(square(a[0]), square(a[1]));
            case 3: return multiplied(square(a[0]), square(a[1]));
            case 4: return put(square(a[0]), a[1], a[2], a[3]);
            case 5: return point(square(a[0]), a[1], a[2])[a[1]][a[2]];
            case 6: return Naive.laws(square(a[0]));
            case 7: return sum(square(a[0]), a[2], a[1]);
            case 8: return changed(square(a[0]), a[0], a[2], a[2] == 2 ? a[3] : a[1]);
            case 9: return Check.bit(Naive.kin(square(a[0]), square(a[1])));
            case 10: return Naive.least(point(square(a[0]), a[1], a[2]))[a[1]][a[2]];
            case 11: return kin(square(a[0]));
            case 12: return classes();
            case 13: return completions(square(a[0])).size();
            case 14: return completion(point(square(a[0]), a[1], a[2]), a[3], a[1], a[2]);
            case 15: return estimate(square(a[0]), a[3] * 64);
            case 16: return givens(square(a[0]), a[1] % 2 == 0);
            case 17: return slip(square(a[0]), a[2]);
            case 18: return orthogonal(square(a[0]), square(a[1]));
            case 19: return crossings(square(a[0]), a[3]);
            default: return dimension(a[0], a[1]);
        }
    }

    private int[][] square(int s) {
        if (s < 0 || s >= squares.size()) {
            throw new IndexOutOfBoundsException();
        }
        return squares.get(s);
    }

    private static int[][] point(int[][] a, int r, int c) {
        if (Math.min(r, c) < 0 || Math.max(r, c) >= a.length) {
            throw new IndexOutOfBoundsException();
        }
        return a;
    }

    private static int between(int value, int lowest, int highest) {
        if (value < lowest || value > highest) {
            throw new IllegalArgumentException();
        }
        return value;
    }

    private static void allowed(boolean is) {
        if (!is) {
            throw new IllegalStateException();
        }
    }

    private long added(int side) {
        allowed(squares.size() < 8);
        squares.add(new int[side][side]);
        return squares.size() - 1;
    }

    private long made(int maker, int side) {
        between(maker, 0, 3);
        between(side, 1, 9);
        String[] sides = {"13579", "48", "157", "6"};
        allowed(sides[maker].indexOf('0' + side) >= 0);
        long square = added(side);
        squares.set((int) square,
            maker == 0 ? Naive.siege(side) : maker == 1 ? Naive.cross(side) : maker == 2 ? Naive.digits(side) : Naive.lux());
        return square;
    }

    private static boolean isWithin(int[][] a, int lowest, int highest) {
        for (int[] row : a) {
            for (int number : row) {
                if (number < lowest || number > highest) {
                    return false;
                }
            }
        }
        return true;
    }

    private long stacked(int[][] a, int[][] b) {
        int n = a.length;
        allowed(n == b.length && isWithin(a, 1, n) && isWithin(b, 1, n));
        long square = added(n);
        for (int p = 0; p < n * n; p++) {
            squares.get((int) square)[p / n][p % n] = n * (a[p / n][p % n] - 1) + b[p / n][p % n];
        }
        return square;
    }

    private long multiplied(int[][] a, int[][] b) {
        int m = b.length;
        int side = a.length * m;
        allowed(side <= 9 && isWithin(a, 1, 999) && isWithin(b, 1, 999));
        int[][] product = new int[side][side];
        for (int r = 0; r < side; r++) {
            for (int c = 0; c < side; c++) {
                product[r][c] = m * m * (a[r / m][c / m] - 1) + b[r % m][c % m];
            }
        }
        allowed(isWithin(product, 1, 999));
        long square = added(side);
        squares.set((int) square, product);
        return square;
    }

    private static long put(int[][] a, int r, int c, int number) {
        point(a, r, c);
        between(number, 0, 999);
        int old = a[r][c];
        a[r][c] = number;
        return old;
    }

    private static long sum(int[][] a, int kind, int line) {
        return Naive.sum(a, between(kind, 0, 3), between(line, 0, a.length - 1));
    }

    private long changed(int[][] a, int s, int change, int by) {
        between(change, 0, 5);
        between(by, 0, change == 0 ? 3 : change == 1 ? 1 : change == 2 ? 1998 : a.length - 1);
        int[][] b = Naive.changed(a, change, by);
        for (int p = 0; p < a.length * a.length; p++) {
            int number = b[p / a.length][p % a.length];
            allowed(a[p / a.length][p % a.length] == 0 || change != 2 || number >= 1 && number <= 999);
        }
        squares.set(s, b);
        return Naive.differing(a, b);
    }

    private static long kin(int[][] a) {
        int count = 0;
        for (int[][] form : Naive.forms(a)) {
            count += Naive.compare(form, a) == 0 ? 1 : 0;
        }
        return count;
    }

    private long classes() {
        int count = 0;
        for (int s = 0; s < squares.size(); s++) {
            boolean isNew = true;
            for (int earlier = 0; earlier < s; earlier++) {
                isNew &= !Naive.kin(squares.get(earlier), squares.get(s));
            }
            count += isNew ? 1 : 0;
        }
        return count;
    }

    /** A square without what FITS has no COMPLETIONS; that spares looking for them. */
    private static List<int[][]> completions(int[][] a) {
        int empty = 0;
        for (int[] row : a) {
            for (int number : row) {
                empty += number == 0 ? 1 : 0;
            }
        }
        allowed(a.length <= 4 && empty <= 9);
        return empty > 7 && a.length == 4 && !Naive.fits(a) ? new ArrayList<>() : Naive.completions(a);
    }

    private static long completion(int[][] a, int which, int r, int c) {
        between(which, 0, Integer.MAX_VALUE);
        List<int[][]> all = completions(a);
        return which < all.size() ? all.get(which)[r][c] : LoshuHall.NONE;
    }

    private static long estimate(int[][] a, int seed) {
        between(seed, 0, 65535);
        allowed(a.length <= 4);
        return Naive.estimate(a, seed);
    }

    private static long givens(int[][] a, boolean isSet) {
        allowed(a.length <= 3 && Naive.normal(a) && Naive.magic(a));
        int set = Naive.givens(a);
        return isSet ? set : Integer.bitCount(set);
    }

    private static long slip(int[][] a, int what) {
        return Naive.slips(a)[between(what, 0, 2)];
    }

    private static long orthogonal(int[][] a, int[][] b) {
        allowed(a.length == b.length);
        return Check.bit(Naive.orthogonal(a, b));
    }

    private static long crossings(int[][] a, int total) {
        between(total, 0, 8991);
        allowed(a.length <= 6);
        return Naive.crossings(a, total);
    }

    private static long dimension(int side, int laws) {
        between(side, 1, 6);
        between(laws & ~62, 0, 0);
        return Naive.dimension(side, laws);
    }
}
