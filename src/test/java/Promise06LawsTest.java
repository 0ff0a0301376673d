/** Promise 6: laws. */
public final class Promise06LawsTest {
    private static final String CALL = "Promise 6, laws: ";
    private static final int FULL = LoshuHall.FULL;
    private static final int ROWS = LoshuHall.ROWS;
    private static final int COLUMNS = LoshuHall.COLUMNS;
    private static final int DIAGONALS = LoshuHall.DIAGONALS;
    private static final int BROKEN = LoshuHall.BROKEN;
    private static final int OPPOSITE = LoshuHall.OPPOSITE;
    private static final int NORMAL = LoshuHall.NORMAL;
    private static final int POWERS = LoshuHall.POWERS;
    private static final int SUMS = ROWS | COLUMNS | DIAGONALS | BROKEN | OPPOSITE | POWERS;

    public static void main(String[] args) {
        Edges.noSuchSquare(CALL, LoshuHall::laws);
        Edges.eachSquare(CALL, unlikeSquares(), LoshuHall::laws);
        allEmptyAndAllAlike();
        onePoint();
        oneEmptyPointIsNotFull();
        rowsAndColumnsAreHeldAgainstRow0();
        bothDiagonals();
        brokenDiagonalsOfBothSorts();
        oppositePoints();
        normalNumbers();
        powers();
        onePointIsRaised();
        knownSquares();
        drawnSquares();
        Check.end("Promise06LawsTest");
    }

    private static int[][][] unlikeSquares() {
        return new int[][][] {Halls.loShu(), Halls.empty(3), Halls.latin(3, 1), Halls.counted(2), Halls.brokenFour(),
            Halls.filled(1, 2), Halls.filled(1, 1), Halls.square(2, 1, 0, 0, 1)};
    }

    private static void lawsAre(String what, int due, int[][] square) {
        Edges.answers(CALL + what, due, Halls.laid(square), hall -> hall.laws(0));
        Check.due(CALL + what + ", by the second reading", due, Naive.laws(square));
    }

    private static void allEmptyAndAllAlike() {
        for (int side = 2; side <= 9; side++) {
            lawsAre("all EMPTY, SIDE " + side, SUMS, Halls.empty(side));
            lawsAre("all 1, SIDE " + side, SUMS | FULL, Halls.filled(side, 1));
            lawsAre("all 999, SIDE " + side, SUMS | FULL, Halls.filled(side, 999));
        }
    }

    private static void onePoint() {
        lawsAre("SIDE 1, EMPTY", SUMS, Halls.empty(1));
        lawsAre("SIDE 1, the number 1", 255, Halls.filled(1, 1));
        lawsAre("SIDE 1, the number 2", SUMS | FULL, Halls.filled(1, 2));
        lawsAre("SIDE 1, the number 999", SUMS | FULL, Halls.filled(1, 999));
    }

    private static void oneEmptyPointIsNotFull() {
        for (int side = 1; side <= 9; side++) {
            Check.due(CALL + "FULL, SIDE " + side, FULL, Halls.of(Halls.counted(side)).laws(0) & FULL);
            for (int p = 0; p < side * side; p++) {
                int[][] holed = Halls.with(Halls.counted(side), p, 0);
                Check.due(CALL + "not FULL, SIDE " + side + ", EMPTY at " + p, 0, Halls.of(holed).laws(0) & FULL);
                int[][] lone = Halls.with(Halls.empty(side), p, 1);
                Check.due(CALL + "SIDE " + side + ", one number at " + p, side == 1 ? FULL : 0, Halls.of(lone).laws(0) & FULL);
            }
        }
    }

    private static void rowsAndColumnsAreHeldAgainstRow0() {
        lawsAre("ROWS without COLUMNS", FULL | ROWS, Halls.square(3, 1, 2, 6, 1, 4, 4, 6, 2, 1));
        lawsAre("COLUMNS without ROWS", FULL | COLUMNS, Halls.square(3, 1, 1, 7, 2, 4, 1, 6, 4, 1));
        lawsAre("columns, and diagonals, that are alike, but not as the row 0", FULL | OPPOSITE, Halls.square(2, 1, 1, 2, 2));
        lawsAre("EMPTY is 0 in the sum of the row 0", ROWS | COLUMNS | POWERS, Halls.square(2, 1, 0, 0, 1));
        lawsAre("the row 0 is EMPTY, and others not", 0, Halls.square(3, 0, 0, 0, 1, 2, 3, 1, 5, 1));
    }

    private static void bothDiagonals() {
        lawsAre("both DIAGONALS, not the BROKEN ones", DIAGONALS, Halls.square(3, 1, 2, 0, 0, 1, 0, 2, 0, 1));
        lawsAre("the one down to the right alone", FULL, Halls.square(3, 1, 1, 4, 3, 2, 2, 3, 1, 3));
        lawsAre("the one down to the left alone", FULL, Halls.square(3, 4, 1, 1, 2, 2, 3, 3, 1, 3));
        lawsAre("both DIAGONALS alike, but not as the row 0", FULL | OPPOSITE | NORMAL, Halls.counted(3));
    }

    /** A number for each broken diagonal of one sort: those of the other sort, the rows and the columns sum alike. */
    private static int[][] striped(int side, int[] numbers, boolean isDownRight) {
        int[][] a = new int[side][side];
        for (int r = 0; r < side; r++) {
            for (int c = 0; c < side; c++) {
                a[r][c] = numbers[Naive.mod(isDownRight ? c - r : c + r, side)];
            }
        }
        return a;
    }

    private static void brokenDiagonalsOfBothSorts() {
        lawsAre("DIAGONALS, those down to the left, not those down to the right",
            FULL | ROWS | COLUMNS | DIAGONALS | OPPOSITE | POWERS,
            striped(3, new int[] {2, 1, 3}, true));
        lawsAre("DIAGONALS, those down to the right, not those down to the left",
            FULL | ROWS | COLUMNS | DIAGONALS | OPPOSITE | POWERS,
            striped(3, new int[] {1, 3, 2}, false));
        lawsAre("BROKEN", FULL | ROWS | COLUMNS | DIAGONALS | BROKEN | NORMAL, Halls.brokenFour());
        for (int side = 3; side <= 9; side += 2) {
            for (int one = 1; one < side; one++) {
                int[] numbers = new int[side];
                java.util.Arrays.fill(numbers, 5);
                numbers[one]++;
                numbers[one % (side - 1) + 1]--;
                int[][] right = striped(side, numbers, true);
                Check.due(CALL + "BROKEN fails, SIDE " + side + ", down to the right, k " + one, 0,
                    Halls.of(right).laws(0) & BROKEN);
                int[][] left = Naive.flipped(right);
                Check.due(CALL + "BROKEN fails, SIDE " + side + ", down to the left, k " + one, 0,
                    Halls.of(left).laws(0) & BROKEN);
                Check.due(CALL + "DIAGONALS hold, SIDE " + side + ", k " + one, DIAGONALS, Halls.of(left).laws(0) & DIAGONALS);
            }
        }
    }

    private static void oppositePoints() {
        lawsAre("OPPOSITE, SIDE 2", FULL | OPPOSITE | NORMAL, Halls.counted(2));
        lawsAre("OPPOSITE with EMPTY points, which are 0", OPPOSITE, Halls.square(2, 0, 3, 2, 5));
        lawsAre("OPPOSITE fails with EMPTY points", 0, Halls.square(2, 0, 3, 2, 4));
        lawsAre("the middle one counts twice", FULL | OPPOSITE | NORMAL, Halls.counted(3));
        lawsAre("the middle one counts not once", FULL, Halls.square(3, 1, 2, 3, 4, 10, 6, 7, 8, 9));
        lawsAre("the middle one is one too high", FULL, Halls.square(3, 1, 2, 3, 4, 6, 6, 7, 8, 9));
        lawsAre("OPPOSITE has a sum of its own", FULL | OPPOSITE, Halls.square(2, 1, 1, 2, 2));
        for (int side = 2; side <= 9; side++) {
            Check.due(CALL + "OPPOSITE, SIDE " + side, OPPOSITE, Halls.of(Halls.counted(side)).laws(0) & OPPOSITE);
            for (int p = 0; p < side * side; p++) {
                int[][] raised = Halls.with(Halls.counted(side), p, p + 2);
                Check.due(CALL + "OPPOSITE fails, SIDE " + side + ", PLACE " + p, 0, Halls.of(raised).laws(0) & OPPOSITE);
            }
        }
    }

    private static void normalNumbers() {
        for (int side = 1; side <= 9; side++) {
            int points = side * side;
            Check.due(CALL + "NORMAL, SIDE " + side, NORMAL, Halls.of(Halls.counted(side)).laws(0) & NORMAL);
            for (int number : new int[] {0, 1, points, points + 1, 999}) {
                for (int p = 0; p < points; p++) {
                    int[][] square = Halls.with(Halls.counted(side), p, number);
                    int due = number == p + 1 ? NORMAL : 0;
                    Check.due(CALL + "NORMAL, SIDE " + side + ", " + number + " at " + p, due, Halls.of(square).laws(0) & NORMAL);
                }
            }
        }
    }

    private static void powers() {
        lawsAre("POWERS without ROWS and COLUMNS", FULL | POWERS, Halls.square(3, 1, 4, 8, 4, 7, 4, 8, 4, 1));
        lawsAre("the powers of the rows alone", FULL | ROWS | DIAGONALS | BROKEN | OPPOSITE, Halls.square(2, 1, 2, 1, 2));
        lawsAre("the powers of the columns alone", FULL | OPPOSITE, Halls.square(2, 1, 1, 2, 2));
        for (int side = 2; side <= 9; side++) {
            int[][] latin = Halls.latin(side, 1);
            Check.due(CALL + "POWERS, SIDE " + side, POWERS, Halls.of(latin).laws(0) & POWERS);
            Check.due(CALL + "POWERS of the highest numbers, SIDE " + side, POWERS,
                Halls.of(Halls.filled(side, 999)).laws(0) & POWERS);
            for (int p = 0; p < side * side; p++) {
                int[][] lowered = Halls.with(Halls.filled(side, 999), p, 998);
                Check.due(CALL + "POWERS fail, SIDE " + side + ", PLACE " + p, 0, Halls.of(lowered).laws(0) & POWERS);
            }
        }
    }

    private static void onePointIsRaised() {
        for (int side = 2; side <= 9; side++) {
            for (int p = 0; p < side * side; p++) {
                int row = p / side;
                int column = p % side;
                boolean isOnDiagonal = row == column || row + column == side - 1;
                int laws = Halls.of(Halls.with(Halls.filled(side, 5), p, 6)).laws(0);
                String what = CALL + "SIDE " + side + ", one higher at " + p + ", ";
                Check.due(what + "ROWS, COLUMNS", 0, laws & (ROWS | COLUMNS));
                Check.due(what + "DIAGONALS", isOnDiagonal || row == 0 ? 0 : DIAGONALS, laws & DIAGONALS);
                Check.due(what + "BROKEN, OPPOSITE, POWERS", 0, laws & (BROKEN | OPPOSITE | POWERS));
                Check.due(what + "FULL", FULL, laws & FULL);
            }
        }
    }

    private static void knownSquares() {
        lawsAre("SIEGE", 111, Halls.loShu());
        lawsAre("a magic square of the SIDE 4", 111, Halls.four());
        lawsAre("FULL alone", FULL, Halls.square(3, 1, 2, 3, 4, 5, 6, 7, 8, 8));
        lawsAre("none", 0, Halls.square(3, 1, 2, 3, 0, 5, 6, 7, 8, 1));
        int[] due = {111, 111, 111, 95, 79};
        int[][] made = {{LoshuHall.SIEGE, 9}, {LoshuHall.CROSS, 4}, {LoshuHall.CROSS, 8}, {LoshuHall.DIGITS, 7}, {LoshuHall.LUX, 6}};
        for (int i = 0; i < due.length; i++) {
            int[] maker = made[i];
            Edges.answers(CALL + "the maker " + maker[0] + ", SIDE " + maker[1], due[i], () -> {
                LoshuHall hall = new LoshuHall();
                hall.make(maker[0], maker[1]);
                return hall;
            }, hall -> hall.laws(0));
        }
    }

    private static void drawnSquares() {
        Draw draw = new Draw(6);
        for (int run = 0; run < 4000; run++) {
            int side = 1 + draw.below(run % 3 == 0 ? 9 : 3);
            int[][] a = draw.square(side, 1 + draw.below(run % 2 == 0 ? 2 : side * side), 1 + draw.below(40));
            Check.due(CALL + "a drawn SQUARE", Naive.laws(a), Halls.of(a).laws(0));
        }
    }
}
