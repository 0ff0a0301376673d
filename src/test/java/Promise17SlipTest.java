/** Promise 17: slip. */
public final class Promise17SlipTest {
    private static final String CALL = "Promise 17, slip: ";
    private static final String[] NAMES = {"how many", "the PLACE", "the number"};

    public static void main(String[] args) {
        Edges.noSuchSquare(CALL, (hall, square) -> hall.slip(square, 0));
        Edges.eachSquare(CALL, unlikeSquares(), (hall, square) -> hall.slip(square, 1));
        rangesAreKept();
        aMissingSquareComesAheadOfWhat();
        side1();
        eachPlaceIsMended();
        magicOnesHaveNone();
        allEmptyHasNone();
        numbersAtTheEnds();
        eachLawIsNeeded();
        drawnSquares();
        Check.end("Promise17SlipTest");
    }

    private static int[][][] unlikeSquares() {
        int[][][] squares = new int[8][][];
        for (int i = 0; i < 8; i++) {
            squares[i] = i == 3 ? Halls.loShu() : Halls.with(Halls.loShu(), i, 0);
        }
        return squares;
    }

    private static void slipsAre(String what, int count, int place, int number, int[][] square) {
        int[] due = {count, place, number};
        for (int told = 0; told < 3; told++) {
            int asked = told;
            Edges.answers(CALL + what + ", " + NAMES[told], due[told], Halls.laid(square), hall -> hall.slip(0, asked));
        }
    }

    private static void none(String what, int[][] square) {
        slipsAre(what, 0, LoshuHall.NONE, LoshuHall.NONE, square);
    }

    private static void rangesAreKept() {
        int[][][] squares = {Halls.loShu(), Halls.with(Halls.loShu(), 0, 0), Halls.empty(1), Halls.filled(9, 1)};
        for (int[][] square : squares) {
            Edges.range(CALL + "SIDE " + square.length + ", what", 0, 2, Halls.laid(square), (hall, what) -> hall.slip(0, what));
        }
    }

    private static void aMissingSquareComesAheadOfWhat() {
        for (int what : new int[] {Integer.MIN_VALUE, -1, 3, Integer.MAX_VALUE}) {
            Edges.refuses(CALL + "no SQUARE and what " + what, Check.IOOBE, Halls.laid(Halls.loShu()),
                hall -> hall.slip(1, what));
            Edges.refuses(CALL + "no SQUARE -1 and what " + what, Check.IOOBE, Halls.laid(Halls.loShu()),
                hall -> hall.slip(-1, what));
            Edges.refuses(CALL + "a new object and what " + what, Check.IOOBE, LoshuHall::new, hall -> hall.slip(0, what));
        }
    }

    private static void side1() {
        slipsAre("SIDE 1, EMPTY: each number", 999, 0, 1, Halls.empty(1));
        slipsAre("SIDE 1, a 1: each number but it", 998, 0, 2, Halls.filled(1, 1));
        slipsAre("SIDE 1, a 2: each number but it", 998, 0, 1, Halls.filled(1, 2));
        slipsAre("SIDE 1, 999: each number but it", 998, 0, 1, Halls.filled(1, 999));
    }

    private static void eachPlaceIsMended() {
        for (int side = 2; side <= 9; side++) {
            int[][] magic = side == 2 ? Halls.filled(2,
                7) : side == 4 ? Halls.four() : side % 2 == 1 ? Naive.siege(side) : Halls.filled(side, side);
            for (int p = 0; p < side * side; p++) {
                int number = magic[p / side][p % side];
                slipsAre("SIDE " + side + ", 999 at " + p, 1, p, number, Halls.with(magic, p, 999));
                slipsAre("SIDE " + side + ", EMPTY at " + p, 1, p, number, Halls.with(magic, p, 0));
                slipsAre("SIDE " + side + ", one higher at " + p, 1, p, number, Halls.with(magic, p, number + 1));
                int next = (p + 1) % (side * side);
                none("SIDE " + side + ", faults at " + p + " and " + next, Halls.with(Halls.with(magic, p, 400), next, 300));
            }
        }
    }

    private static void magicOnesHaveNone() {
        none("SIDE 3, nothing to mend", Halls.loShu());
        none("SIDE 4, nothing to mend", Halls.four());
        none("SIDE 9, nothing to mend", Naive.siege(9));
        for (int side = 2; side <= 9; side++) {
            none("SIDE " + side + ", all 1, nothing to mend", Halls.filled(side, 1));
            none("SIDE " + side + ", all 999, nothing to mend", Halls.filled(side, 999));
        }
    }

    private static void allEmptyHasNone() {
        for (int side = 2; side <= 9; side++) {
            none("SIDE " + side + ", all EMPTY", Halls.empty(side));
            for (int p : new int[] {0, side - 1, side * side - 1}) {
                none("SIDE " + side + ", EMPTY but for " + p + ": EMPTY is no number of a SLIP",
                    Halls.with(Halls.empty(side), p, 5));
            }
        }
        slipsAre("EMPTY points that stay are 0", 1, 8, 2, Halls.square(3, 2, 4, 0, 0, 2, 4, 4, 0, 0));
    }

    private static void numbersAtTheEnds() {
        slipsAre("999 in place of 998", 1, 3, 999, Halls.square(2, 999, 999, 999, 998));
        slipsAre("999 in place of 1", 1, 0, 999, Halls.square(2, 1, 999, 999, 999));
        slipsAre("999 in place of EMPTY", 1, 1, 999, Halls.square(2, 999, 0, 999, 999));
        slipsAre("1 in place of 7", 1, 2, 1, Halls.square(2, 1, 1, 7, 1));
        slipsAre("1 in place of 999", 1, 2, 1, Halls.square(2, 1, 1, 999, 1));
        slipsAre("1 in place of EMPTY", 1, 3, 1, Halls.square(2, 1, 1, 1, 0));
        none("0 would be needed", Halls.square(2, 0, 0, 7, 0));
        for (int side = 3; side <= 9; side += 2) {
            int most = side * side / 2;
            needed("SIDE " + side + ", 1 is needed", true, spread(side, 10 * most + 1), 1);
            needed("SIDE " + side + ", 0 would be needed", false, spread(side, 10 * most), 0);
            needed("SIDE " + side + ", 999 is needed", true, spread(side, 999 - 10 * most), 999);
            needed("SIDE " + side + ", 1000 would be needed", false, spread(side, 1000 - 10 * most), 1000);
            needed("SIDE " + side + ", 1009 would be needed", false, spread(side, 1009 - 10 * most), 1009);
        }
    }

    /** Magic: what SIEGE makes, ten times as far apart, and round another middle. */
    private static int[][] spread(int side, int middle) {
        int[][] square = Naive.siege(side);
        for (int[] row : square) {
            for (int c = 0; c < side; c++) {
                row[c] = 10 * (row[c] - side * side / 2 - 1) + middle;
            }
        }
        return square;
    }

    /** The one point that has the number in a magic square has another one. */
    private static void needed(String what, boolean isSlip, int[][] magic, int number) {
        int side = magic.length;
        for (int[][] form : Naive.forms(magic)) {
            for (int p = 0; p < side * side; p++) {
                if (form[p / side][p % side] == number) {
                    int[][] square = Halls.with(form, p, 77);
                    slipsAre(what, isSlip ? 1 : 0, isSlip ? p : LoshuHall.NONE, isSlip ? number : LoshuHall.NONE, square);
                }
            }
        }
    }

    private static void eachLawIsNeeded() {
        int[][][] squares = Halls.oneLawShort();
        for (int i = 0; i < 4; i++) {
            int[] due = Naive.slips(squares[i]);
            slipsAre("short of one law, " + i, due[0], due[1], due[2], squares[i]);
            for (int p = 0; p < 9; p++) {
                none("short of one law, " + i + ", and 900 at " + p, Halls.with(squares[i], p, 900));
            }
        }
        for (int[][] form : Naive.forms(Halls.square(4, 10, 10, 10, 10, 10, 10, 10, 10, 11, 11, 10, 10, 9, 9, 10, 10))) {
            for (int p = 0; p < 16; p++) {
                none("SIDE 4, two rows, or two columns, alone are short, and 500 at " + p, Halls.with(form, p, 500));
                none("SIDE 4, two rows, or two columns, alone are short, and EMPTY at " + p, Halls.with(form, p, 0));
            }
        }
        for (int[][] square : Halls.threes()) {
            int[] due = Naive.slips(square);
            slipsAre("NORMAL, SIDE 3", due[0], due[1], due[2], square);
        }
        none("rows and columns can be mended, not the DIAGONALS", Halls.square(3, 1, 2, 3, 2, 3, 1, 3, 1, 9));
        none("SIDE 2, DIAGONALS and rows, not the columns", Halls.square(2, 1, 2, 1, 2));
    }

    private static void drawnSquares() {
        Draw draw = new Draw(17);
        for (int run = 0; run < 200; run++) {
            int[][] a = draw.square(1 + draw.below(3), 2, 4);
            int[] due = Naive.slips(a);
            LoshuHall hall = Halls.of(a);
            for (int what = 0; what < 3; what++) {
                Check.due(CALL + "a drawn SQUARE, " + NAMES[what], due[what], hall.slip(0, what));
            }
        }
    }
}
