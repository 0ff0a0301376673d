import java.util.List;

/** Promises 13 to 16: completions, completion, estimate, givens. */
public final class CompletionsTest {
    private static final int[] FAR = {Integer.MIN_VALUE, -1000000, -2, -1, 8, 1000000, Integer.MAX_VALUE};
    private static final int[][][] MAGIC = {
        Naive.of(4, 16, 3, 2, 13, 5, 10, 11, 8, 9, 6, 7, 12, 4, 15, 14, 1),
        Naive.of(4, 1, 8, 11, 14, 12, 13, 2, 7, 6, 3, 16, 9, 15, 10, 5, 4),
        Naive.of(3, 2, 7, 6, 9, 5, 1, 4, 3, 8),
    };

    public static void main(String[] args) {
        completionsOfTheEmptySquares();
        completionsOfFullSquares();
        completionsOfHoledSquares();
        completionsAreInOrder();
        completionsStopAtTheirLimits();
        completionsRefuse();
        completionRefuses();
        whatFitsIsToldByEachLine();
        estimatesOfHoledSquares();
        estimatesOfFewNumbers();
        estimatesOfFullSquares();
        estimateRefuses();
        givensOfTheSideThree();
        givensOfOnePoint();
        givensRefuse();
        Check.end("CompletionsTest");
    }

    private static void completionsOfTheEmptySquares() {
        LoshuHall hall = new LoshuHall();
        hall.square(1);
        hall.square(2);
        hall.square(3);
        Check.due("completions of the side 1", 1, hall.completions(0));
        Check.due("completion of the side 1", 1, hall.completion(0, 0, 0, 0));
        Check.due("no second one", LoshuHall.NONE, hall.completion(0, 1, 0, 0));
        Check.due("completions of the side 2", 0, hall.completions(1));
        Check.due("completion of the side 2", LoshuHall.NONE, hall.completion(1, 0, 1, 1));
        Check.due("completions of the side 3", 8, hall.completions(2));
        int[][] due = {
            {2, 7, 6, 9, 5, 1, 4, 3, 8}, {2, 9, 4, 7, 5, 3, 6, 1, 8}, {4, 3, 8, 9, 5, 1, 2, 7, 6}, {4, 9, 2, 3, 5, 7, 8, 1, 6},
            {6, 1, 8, 7, 5, 3, 2, 9, 4}, {6, 7, 2, 1, 5, 9, 8, 3, 4}, {8, 1, 6, 3, 5, 7, 4, 9, 2}, {8, 3, 4, 1, 5, 9, 6, 7, 2},
        };
        for (int which = 0; which < 8; which++) {
            for (int p = 0; p < 9; p++) {
                Check.due("completion " + which + " at " + p, due[which][p], hall.completion(2, which, p / 3, p % 3));
            }
        }
        Check.due("no ninth one", LoshuHall.NONE, hall.completion(2, 8, 2, 2));
        Check.due("none so far off", LoshuHall.NONE, hall.completion(2, Integer.MAX_VALUE, 0, 0));
        Check.due("the square stays EMPTY", 0, Naive.differing(new int[3][3], Naive.read(hall, 2, 3)));
    }

    private static void completionsOfFullSquares() {
        LoshuHall hall = new LoshuHall();
        int crossed = hall.make(LoshuHall.CROSS, 4);
        Check.due("completions of a magic square", 1, hall.completions(crossed));
        Check.due("its completion is itself", 12, hall.completion(crossed, 0, 3, 0) + hall.completion(crossed, 0, 1, 3));
        int old = hall.put(crossed, 0, 0, 2);
        Check.due("completions with a number twice", 0, hall.completions(crossed));
        hall.put(crossed, 0, 0, 17);
        Check.due("completions with a number above 16", 0, hall.completions(crossed));
        hall.put(crossed, 0, 0, 999);
        Check.due("completions with 999", 0, hall.completions(crossed));
        hall.put(crossed, 0, 0, old);
        hall.put(crossed, 1, 0, 9);
        hall.put(crossed, 2, 0, 5);
        Check.due("completions of no magic square", 0, hall.completions(crossed));
        int one = hall.square(1);
        hall.put(one, 0, 0, 2);
        Check.due("completions of one 2", 0, hall.completions(one));
        Check.due("completion of one 2", LoshuHall.NONE, hall.completion(one, 0, 0, 0));
    }

    private static int[][] holed(Draw draw, int[][] a, int holes) {
        int[][] b = Naive.copy(a);
        int n = a.length;
        for (int made = 0; made < holes;) {
            int p = draw.below(n * n);
            if (b[p / n][p % n] != 0) {
                b[p / n][p % n] = 0;
                made++;
            }
        }
        return b;
    }

    private static void areTold(int[][] a) {
        List<int[][]> due = Naive.completions(a);
        int n = a.length;
        LoshuHall hall = new LoshuHall();
        Naive.lay(hall, a);
        Check.due("completions, side " + n, due.size(), hall.completions(0));
        for (int which = 0; which <= due.size() && which < 20; which++) {
            for (int p = 0; p < n * n; p += which == 0 ? 1 : 3) {
                int number = which < due.size() ? due.get(which)[p / n][p % n] : LoshuHall.NONE;
                Check.due("completion " + which + " at " + p, number, hall.completion(0, which, p / n, p % n));
            }
        }
        Check.due("the square stays", 0, Naive.differing(a, Naive.read(hall, 0, n)));
    }

    private static void completionsOfHoledSquares() {
        Draw draw = new Draw(13);
        for (int run = 0; run < 150; run++) {
            int[][] a = MAGIC[run % 3];
            areTold(holed(draw, a, draw.below(7)));
            int[][] b = holed(draw, a, 1 + draw.below(5));
            int n = a.length;
            b[draw.below(n)][draw.below(n)] = 1 + draw.below(n * n + 1);
            areTold(b);
        }
        for (int run = 0; run < 6; run++) {
            areTold(holed(draw, MAGIC[run % 3], 8));
        }
    }

    private static void completionsAreInOrder() {
        int[][] two = Naive.of(4, 1, 0, 11, 0, 12, 0, 2, 0, 6, 0, 16, 0, 15, 0, 0, 0);
        areTold(two);
        LoshuHall hall = new LoshuHall();
        Naive.lay(hall, two);
        Check.due("completions with 9 points EMPTY", 2, hall.completions(0));
        Check.holds("the lower one first", hall.completion(0, 0, 0, 1) < hall.completion(0, 1, 0, 1));
    }

    private static void completionsStopAtTheirLimits() {
        LoshuHall hall = new LoshuHall();
        Naive.lay(hall, MAGIC[1]);
        for (int p = 0; p < 9; p++) {
            hall.put(0, p / 4, p % 4, 0);
        }
        Check.holds("9 points EMPTY", hall.completions(0) >= 1);
        Check.due("9 points EMPTY: a given one", 15, hall.completion(0, 0, 3, 0));
        hall.put(0, 3, 3, 0);
        Check.fails("completions with 10 points EMPTY", Check.ISE, () -> hall.completions(0));
        Check.fails("completion with 10 points EMPTY", Check.ISE, () -> hall.completion(0, 0, 0, 0));
        hall.put(0, 0, 0, 999);
        Check.due("completions with 999 and 9 points EMPTY", 0, hall.completions(0));
        int five = hall.make(LoshuHall.SIEGE, 5);
        Check.fails("completions of the side 5", Check.ISE, () -> hall.completions(five));
        Check.fails("completion of the side 5", Check.ISE, () -> hall.completion(five, 0, 4, 4));
        int four = hall.square(4);
        Check.fails("completions of the EMPTY side 4", Check.ISE, () -> hall.completions(four));
    }

    private static void completionsRefuse() {
        LoshuHall hall = new LoshuHall();
        hall.square(9);
        for (int far : FAR) {
            Check.fails("completions " + far, Check.IOOBE, () -> hall.completions(far));
        }
        Check.fails("completions 1", Check.IOOBE, () -> hall.completions(1));
    }

    private static void completionRefuses() {
        LoshuHall hall = new LoshuHall();
        hall.square(5);
        hall.square(3);
        for (int far : FAR) {
            Check.fails("completion square " + far, Check.IOOBE, () -> hall.completion(far, -1, 0, 0));
            Check.fails("completion row " + far, Check.IOOBE, () -> hall.completion(0, -1, far, 0));
            Check.fails("completion column " + far, Check.IOOBE, () -> hall.completion(0, 0, 0, far));
        }
        Check.fails("completion row 3", Check.IOOBE, () -> hall.completion(1, 0, 3, 0));
        Check.fails("completion column 3", Check.IOOBE, () -> hall.completion(1, 0, 0, 3));
        Check.fails("completion which -1, side 5", Check.IAE, () -> hall.completion(0, -1, 0, 0));
        Check.fails("completion which -1", Check.IAE, () -> hall.completion(1, -1, 0, 0));
        Check.fails("completion which far below 0", Check.IAE, () -> hall.completion(1, Integer.MIN_VALUE, 0, 0));
        Check.fails("completion of the side 5", Check.ISE, () -> hall.completion(0, 0, 0, 0));
    }

    /** Rows and columns that stay as they are, with DIAGONALS of other sums: one of them, or both. */
    private static void whatFitsIsToldByEachLine() {
        int faults = 0;
        for (int[][] full : MAGIC) {
            int n = full.length;
            for (int by = 0; by < n * n * n; by++) {
                int[][] a = Naive.changed(Naive.changed(full, LoshuHall.DOWN, by % n), LoshuHall.RIGHT, by / n % n);
                int[] kept = a[0];
                a[0] = a[by / n / n];
                a[by / n / n] = kept;
                faults += Naive.sum(a, 2, 0) == n * (n * n + 1) / 2 != (Naive.sum(a, 3, n - 1) == n * (n * n + 1) / 2) ? 1 : 0;
                areTold(a);
                isEstimated(a, by);
                for (int r = 0; r < n; r++) {
                    for (int c = 0; c < n; c++) {
                        a[r][c] = r == c || r + c == n - 1 ? a[r][c] : 0;
                    }
                }
                isEstimated(a, by);
                if (n == 3) {
                    areTold(a);
                }
            }
        }
        Check.holds("some have one DIAGONAL of another sum", faults > 5);
    }

    private static void isEstimated(int[][] a, int seed) {
        LoshuHall hall = new LoshuHall();
        Naive.lay(hall, a);
        Check.due("estimate from " + seed, Naive.estimate(a, seed), hall.estimate(0, seed));
        Check.due("the square stays", 0, Naive.differing(a, Naive.read(hall, 0, a.length)));
    }

    private static void estimatesOfHoledSquares() {
        Draw draw = new Draw(14);
        int above = 0;
        for (int run = 0; run < 3000; run++) {
            int[][] full = MAGIC[run % 3];
            int[][] a = holed(draw, full, draw.below(full.length == 4 ? 17 : 10));
            int seed = draw.below(65536);
            isEstimated(a, seed);
            above += Naive.estimate(a, seed) > 1 ? 1 : 0;
        }
        Check.holds("some estimates are above 1", above > 50);
    }

    private static void estimatesOfFewNumbers() {
        Draw draw = new Draw(15);
        for (int run = 0; run < 1500; run++) {
            int side = 1 + draw.below(4);
            isEstimated(draw.square(side, side * side + (run % 20 == 0 ? 5 : 0), 1), run % 2 == 0 ? 65535 : draw.below(65536));
            int[][] a = draw.square(side, side * side, 1);
            a[draw.below(side)][draw.below(side)] = 1 + draw.below(side * side + 1);
            a[draw.below(side)][draw.below(side)] = 1 + draw.below(side * side + 1);
            isEstimated(a, draw.below(65536));
        }
        estimatesOfTheEmptySideFour();
    }

    private static void estimatesOfTheEmptySideFour() {
        LoshuHall hall = new LoshuHall();
        hall.square(4);
        for (int seed = 0; seed < 400; seed++) {
            Check.due("estimate of the EMPTY side 4", Naive.estimate(new int[4][4], seed), hall.estimate(0, seed));
        }
        Check.due("one of the two seeds that end well", 354816000L, hall.estimate(0, 6196));
        Check.due("the other one", 222393600L, hall.estimate(0, 62612));
    }

    private static void estimatesOfFullSquares() {
        LoshuHall hall = new LoshuHall();
        hall.square(1);
        Check.due("estimate of one EMPTY point", 1, hall.estimate(0, 0));
        hall.put(0, 0, 0, 1);
        Check.due("estimate of one 1", 1, hall.estimate(0, 65535));
        hall.put(0, 0, 0, 2);
        Check.due("estimate of one 2", 0, hall.estimate(0, 1));
        hall.square(2);
        Check.due("estimate of the side 2", Naive.estimate(new int[2][2], 3), hall.estimate(1, 3));
        hall.make(LoshuHall.CROSS, 4);
        Check.due("estimate of a magic square", 1, hall.estimate(2, 9));
        hall.put(2, 3, 3, 16);
        Check.due("estimate with a number twice", 0, hall.estimate(2, 9));
    }

    private static void estimateRefuses() {
        LoshuHall hall = new LoshuHall();
        hall.make(LoshuHall.SIEGE, 5);
        hall.square(4);
        for (int far : FAR) {
            Check.fails("estimate square " + far, Check.IOOBE, () -> hall.estimate(far, -1));
        }
        for (int seed : new int[] {-1, 65536, Integer.MIN_VALUE, Integer.MAX_VALUE}) {
            Check.fails("estimate seed " + seed, Check.IAE, () -> hall.estimate(1, seed));
            Check.fails("estimate of the side 5, seed " + seed, Check.IAE, () -> hall.estimate(0, seed));
        }
        Check.fails("estimate of the side 5", Check.ISE, () -> hall.estimate(0, 0));
        Check.fails("estimate of the side 5, the last seed", Check.ISE, () -> hall.estimate(0, 65535));
        Check.due("all 16 points may be EMPTY", Naive.estimate(new int[4][4], 65535), hall.estimate(1, 65535));
    }

    /** The fewest points by completions itself, for each set of points. */
    private static int leastSet(int[][] a) {
        int n = a.length;
        int best = -1;
        for (int set = 0; set < 1 << n * n; set++) {
            LoshuHall hall = new LoshuHall();
            hall.square(n);
            for (int p = 0; p < n * n; p++) {
                hall.put(0, p / n, p % n, (set >> p & 1) == 0 ? 0 : a[p / n][p % n]);
            }
            if (hall.completions(0) == 1 && (best < 0 || Integer.bitCount(set) < Integer.bitCount(best))) {
                best = set;
            }
        }
        return best;
    }

    private static void givensOfTheSideThree() {
        for (int[][] form : Naive.forms(MAGIC[2])) {
            LoshuHall hall = new LoshuHall();
            Naive.lay(hall, form);
            int due = leastSet(form);
            Check.due("givens, the set", due, hall.givens(0, true));
            Check.due("givens, how many", Integer.bitCount(due), hall.givens(0, false));
            Check.due("the square stays", 0, Naive.differing(form, Naive.read(hall, 0, 3)));
        }
        LoshuHall hall = new LoshuHall();
        hall.make(LoshuHall.SIEGE, 3);
        Check.due("givens of SIEGE, the set", 3, hall.givens(0, true));
        Check.due("givens of SIEGE, how many", 2, hall.givens(0, false));
    }

    private static void givensOfOnePoint() {
        LoshuHall hall = new LoshuHall();
        hall.make(LoshuHall.SIEGE, 1);
        Check.due("givens of one point, the set", 0, hall.givens(0, true));
        Check.due("givens of one point, how many", 0, hall.givens(0, false));
    }

    private static void givensRefuse() {
        LoshuHall hall = new LoshuHall();
        hall.make(LoshuHall.CROSS, 4);
        hall.square(3);
        hall.square(2);
        hall.square(1);
        for (int far : FAR) {
            Check.fails("givens " + far, Check.IOOBE, () -> hall.givens(far, true));
        }
        for (int square = 0; square < 4; square++) {
            int s = square;
            Check.fails("givens of square " + s, Check.ISE, () -> hall.givens(s, true));
            Check.fails("givens of square " + s, Check.ISE, () -> hall.givens(s, false));
        }
        hall.put(3, 0, 0, 2);
        Check.fails("givens of one 2", Check.ISE, () -> hall.givens(3, false));
        hall.make(LoshuHall.SIEGE, 3);
        hall.put(4, 1, 1, 0);
        Check.fails("givens with an EMPTY point", Check.ISE, () -> hall.givens(4, false));
        hall.put(4, 1, 1, 5);
        Check.due("givens behind that", 2, hall.givens(4, false));
        hall.change(4, LoshuHall.DOWN, 1);
        Check.fails("givens without DIAGONALS", Check.ISE, () -> hall.givens(4, true));
        int alike = Naive.lay(hall, Naive.of(3, 5, 5, 5, 5, 5, 5, 5, 5, 5));
        Check.fails("givens without NORMAL", Check.ISE, () -> hall.givens(alike, true));
    }
}
