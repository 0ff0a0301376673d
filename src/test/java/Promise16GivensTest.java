/** Promise 16: givens. */
public final class Promise16GivensTest {
    private static final String CALL = "Promise 16, givens: ";
    private static final String[] SHORT = {"ROWS", "COLUMNS", "the DIAGONAL down to the right", "the DIAGONAL down to the left", "NORMAL"};

    public static void main(String[] args) {
        Edges.noSuchSquare(CALL + "how many, ", (hall, square) -> hall.givens(square, false));
        Edges.noSuchSquare(CALL + "the set, ", (hall, square) -> hall.givens(square, true));
        Edges.eachSquare(CALL, unlikeSquares(), (hall, square) -> hall.givens(square, true));
        side1();
        side2();
        side3();
        sidesAbove3AreRefused();
        whatIsNoCompletionOfItselfIsRefused();
        theSetLeavesOneCompletion();
        Check.end("Promise16GivensTest");
    }

    private static int[][][] unlikeSquares() {
        int[][][] squares = Halls.forms(8);
        squares[2] = Halls.filled(1, 1);
        squares[4] = Halls.four();
        squares[5] = Halls.empty(3);
        squares[7] = Halls.filled(1, 1);
        return squares;
    }

    private static void givensAre(String what, int set, int[][] square) {
        Edges.answers(CALL + what + ", the set", set, Halls.laid(square), hall -> hall.givens(0, true));
        Edges.answers(CALL + what + ", how many", Integer.bitCount(set), Halls.laid(square), hall -> hall.givens(0, false));
    }

    private static void areRefused(String what, int[][] square) {
        Edges.refuses(CALL + what + ", the set", Check.ISE, Halls.laid(square), hall -> hall.givens(0, true));
        Edges.refuses(CALL + what + ", how many", Check.ISE, Halls.laid(square), hall -> hall.givens(0, false));
    }

    private static void side1() {
        givensAre("SIDE 1: none are needed", 0, Halls.filled(1, 1));
        areRefused("SIDE 1, EMPTY", Halls.empty(1));
        areRefused("SIDE 1, a 2", Halls.filled(1, 2));
        areRefused("SIDE 1, 999", Halls.filled(1, 999));
    }

    private static void side2() {
        areRefused("SIDE 2, EMPTY", Halls.empty(2));
        areRefused("SIDE 2, full and NORMAL", Halls.counted(2));
        areRefused("SIDE 2, lines that sum alike", Halls.filled(2, 1));
    }

    private static void side3() {
        for (int[][] form : Naive.forms(Halls.loShu())) {
            givensAre("SIDE 3, of several sets the one that is the least number", 3, form);
            Check.due(CALL + "SIDE 3, by the second reading", 3, Naive.givens(form));
        }
    }

    private static void sidesAbove3AreRefused() {
        areRefused("SIDE 4, a COMPLETION of itself", Halls.four());
        areRefused("SIDE 4, EMPTY", Halls.empty(4));
        areRefused("SIDE 5, magic", Naive.siege(5));
        areRefused("SIDE 9, magic", Naive.siege(9));
        for (int side = 4; side <= 9; side++) {
            areRefused("SIDE " + side + ", full", Halls.counted(side));
        }
    }

    private static void whatIsNoCompletionOfItselfIsRefused() {
        int[][][] squares = Halls.oneLawShort();
        for (int i = 0; i < squares.length; i++) {
            areRefused("SIDE 3, all but " + SHORT[i], squares[i]);
        }
        for (int[][] square : Halls.threes()) {
            if (!Naive.magic(square)) {
                areRefused("SIDE 3, NORMAL, of other sums", square);
            }
        }
        areRefused("SIDE 3, EMPTY", Halls.empty(3));
        areRefused("SIDE 3, counted", Halls.counted(3));
        areRefused("SIDE 3, magic with numbers above 9", Naive.changed(Halls.loShu(), LoshuHall.COMPLEMENT, 11));
        for (int p = 0; p < 9; p++) {
            areRefused("SIDE 3, EMPTY at " + p, Halls.with(Halls.loShu(), p, 0));
            areRefused("SIDE 3, 10 at " + p, Halls.with(Halls.loShu(), p, 10));
            areRefused("SIDE 3, 999 at " + p, Halls.with(Halls.loShu(), p, 999));
        }
    }

    private static void theSetLeavesOneCompletion() {
        for (int[][] form : Naive.forms(Halls.loShu())) {
            int due = -1;
            for (int set = 0; set < 512; set++) {
                int[][] kept = Halls.empty(3);
                for (int p = 0; p < 9; p++) {
                    kept[p / 3][p % 3] = (set >> p & 1) == 0 ? 0 : form[p / 3][p % 3];
                }
                if (Halls.of(kept).completions(0) == 1 && (due < 0 || Integer.bitCount(set) < Integer.bitCount(due))) {
                    due = set;
                }
            }
            Check.due(CALL + "by completions, set by set", due, Halls.of(form).givens(0, true));
        }
    }
}
