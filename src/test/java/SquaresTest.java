/** Promises 1 to 7: a new object, square, put, at, make, laws, sum. */
public final class SquaresTest {
    private static final int[] FAR = {Integer.MIN_VALUE, -1000000, -2, -1, 10, 1000000, Integer.MAX_VALUE};

    public static void main(String[] args) {
        aNewObjectHasNoSquares();
        squaresAreNumberedAndEmpty();
        squareRefuses();
        putSetsAndTellsWhatWasThere();
        putRefuses();
        atRefuses();
        siegeIsMade();
        crossIsMade();
        digitsAreMade();
        luxIsMade();
        luxIsMadeBehindOtherCalls();
        makersHoldForTheirSidesAlone();
        makeRefuses();
        lawsOfKnownSquares();
        lawsOfOnePoint();
        lawsOneByOne();
        lawsAsInTheDocument();
        sumsOfLines();
        sumRefuses();
        twoObjectsAreApart();
        Check.end("SquaresTest");
    }

    private static void aNewObjectHasNoSquares() {
        LoshuHall hall = new LoshuHall();
        Check.due("classes of a new object", 0, hall.classes());
        for (int square = -1; square <= 8; square++) {
            int s = square;
            Check.fails("at(" + s + ", 0, 0) of a new object", Check.IOOBE, () -> hall.at(s, 0, 0));
        }
        Check.due("the first square", 0, hall.square(3));
    }

    private static void squaresAreNumberedAndEmpty() {
        LoshuHall hall = new LoshuHall();
        for (int i = 0; i < 8; i++) {
            int side = i == 0 ? 1 : i + 2;
            Check.due("square(" + side + ")", i, hall.square(side));
            for (int p = 0; p < side * side; p++) {
                Check.due("at of an EMPTY square", 0, hall.at(i, p / side, p % side));
            }
            Check.fails("at behind the last row", Check.IOOBE, () -> hall.at(hall.classes() - 1, side, 0));
        }
    }

    private static void squareRefuses() {
        LoshuHall hall = new LoshuHall();
        for (int side : FAR) {
            Check.fails("square(" + side + ")", Check.IAE, () -> hall.square(side));
        }
        Check.fails("square(0)", Check.IAE, () -> hall.square(0));
        for (int i = 0; i < 8; i++) {
            Check.due("square behind refusals", i, hall.square(9));
        }
        Check.fails("a ninth square", Check.ISE, () -> hall.square(1));
        Check.fails("a ninth square of the side 0", Check.IAE, () -> hall.square(0));
        Check.fails("a ninth square of the side 10", Check.IAE, () -> hall.square(10));
        Check.fails("at of the ninth", Check.IOOBE, () -> hall.at(8, 0, 0));
        Check.due("the eighth stays", 0, hall.at(7, 8, 8));
    }

    private static void putSetsAndTellsWhatWasThere() {
        LoshuHall hall = new LoshuHall();
        hall.square(9);
        hall.square(2);
        Check.due("put 999", 0, hall.put(0, 8, 8, 999));
        Check.due("put 1", 999, hall.put(0, 8, 8, 1));
        Check.due("put 1 again", 1, hall.put(0, 8, 8, 1));
        Check.due("put EMPTY", 1, hall.put(0, 8, 8, LoshuHall.EMPTY));
        Check.due("at EMPTY", 0, hall.at(0, 8, 8));
        hall.put(1, 0, 1, 7);
        Check.due("row and column", 7, hall.at(1, 0, 1));
        Check.due("the other point", 0, hall.at(1, 1, 0));
        Check.due("the other square", 0, hall.at(0, 0, 1));
    }

    private static void putRefuses() {
        LoshuHall hall = new LoshuHall();
        hall.square(3);
        hall.put(0, 1, 1, 5);
        for (int far : FAR) {
            Check.fails("put square " + far, Check.IOOBE, () -> hall.put(far, 1, 1, 5));
            Check.fails("put row " + far, Check.IOOBE, () -> hall.put(0, far, 1, 5));
            Check.fails("put column " + far, Check.IOOBE, () -> hall.put(0, 1, far, 5));
            Check.fails("put square and number " + far, Check.IOOBE, () -> hall.put(far, 1, 1, 1000));
            Check.fails("put column and number " + far, Check.IOOBE, () -> hall.put(0, 1, far, -1));
        }
        Check.fails("put row 3", Check.IOOBE, () -> hall.put(0, 3, 0, 5));
        Check.fails("put column 3", Check.IOOBE, () -> hall.put(0, 0, 3, 1000));
        for (int number : new int[] {-1, 1000, Integer.MIN_VALUE, Integer.MAX_VALUE}) {
            Check.fails("put number " + number, Check.IAE, () -> hall.put(0, 1, 1, number));
        }
        Check.due("nothing has changed", 5, hall.at(0, 1, 1));
    }

    private static void atRefuses() {
        LoshuHall hall = new LoshuHall();
        hall.make(LoshuHall.SIEGE, 3);
        for (int far : FAR) {
            Check.fails("at square " + far, Check.IOOBE, () -> hall.at(far, 1, 1));
            Check.fails("at row " + far, Check.IOOBE, () -> hall.at(0, far, 1));
            Check.fails("at column " + far, Check.IOOBE, () -> hall.at(0, 1, far));
        }
        Check.fails("at row 3", Check.IOOBE, () -> hall.at(0, 3, 0));
        Check.fails("at column 3", Check.IOOBE, () -> hall.at(0, 0, 3));
        Check.fails("at square 1", Check.IOOBE, () -> hall.at(1, 0, 0));
    }

    private static void isMade(int maker, int side, int laws, int... numbers) {
        LoshuHall hall = new LoshuHall();
        hall.square(2);
        Check.due("make(" + maker + ", " + side + ")", 1, hall.make(maker, side));
        int[][] made = Naive.read(hall, 1, side);
        for (int p = 0; p < numbers.length; p++) {
            Check.due("maker " + maker + ", side " + side + ", place " + p, numbers[p], made[p / side][p % side]);
        }
        Check.due("laws of maker " + maker + ", side " + side, laws, hall.laws(1));
        Check.due("laws again", laws, Naive.laws(made));
    }

    private static void siegeIsMade() {
        isMade(LoshuHall.SIEGE, 1, 255, 1);
        isMade(LoshuHall.SIEGE, 3, 111, 8, 1, 6, 3, 5, 7, 4, 9, 2);
        isMade(LoshuHall.SIEGE, 5, 111, 17, 24, 1, 8, 15, 23, 5, 7, 14, 16, 4, 6, 13, 20, 22, 10, 12, 19, 21, 3, 11, 18, 25, 2, 9);
        isMade(LoshuHall.SIEGE, 7, 111, 30, 39, 48, 1, 10, 19, 28, 38, 47, 7, 9, 18, 27, 29);
        isMade(LoshuHall.SIEGE, 9, 111, 47, 58, 69, 80, 1, 12, 23, 34, 45, 57, 68, 79, 9, 11);
    }

    private static void crossIsMade() {
        isMade(LoshuHall.CROSS, 4, 111, 16, 2, 3, 13, 5, 11, 10, 8, 9, 7, 6, 12, 4, 14, 15, 1);
        isMade(LoshuHall.CROSS, 8, 111, 64, 2, 3, 61, 60, 6, 7, 57, 9, 55, 54, 12, 13, 51, 50, 16, 17, 47, 46, 20,
            21, 43, 42, 24, 40, 26, 27, 37, 36, 30, 31, 33, 32, 34);
    }

    private static void digitsAreMade() {
        isMade(LoshuHall.DIGITS, 1, 255, 1);
        isMade(LoshuHall.DIGITS, 5, 95, 1, 12, 23, 9, 20, 8, 19, 5, 11, 22, 15, 21, 7, 18, 4, 17, 3, 14, 25, 6, 24, 10, 16, 2, 13);
        isMade(LoshuHall.DIGITS, 7, 95, 1, 16, 31, 46, 12, 27, 42, 10, 25);
    }

    private static void luxIsMade() {
        isMade(LoshuHall.LUX, 6, 79, 32, 29, 4, 1, 24, 21, 30, 31, 2, 3, 22, 23, 12, 9, 17, 20, 28, 25, 10, 11, 18, 19,
            26, 27, 13, 16, 36, 33, 5, 8, 14, 15, 34, 35, 6, 7);
    }

    private static void luxIsMadeBehindOtherCalls() {
        LoshuHall fresh = new LoshuHall();
        fresh.make(LoshuHall.LUX, 6);
        LoshuHall used = new LoshuHall();
        used.make(LoshuHall.SIEGE, 9);
        used.change(0, LoshuHall.TURN, 1);
        used.make(LoshuHall.LUX, 6);
        Check.due("LUX behind a change", 0, Naive.differing(Naive.read(fresh, 0, 6), Naive.read(used, 1, 6)));
        used.make(LoshuHall.LUX, 6);
        Check.due("LUX behind LUX", 0, Naive.differing(Naive.read(fresh, 0, 6), Naive.read(used, 2, 6)));
    }

    private static void makersHoldForTheirSidesAlone() {
        String[] sides = {"13579", "48", "157", "6"};
        for (int maker = 0; maker < 4; maker++) {
            for (int side = 1; side <= 9; side++) {
                LoshuHall hall = new LoshuHall();
                int m = maker;
                int s = side;
                if (sides[maker].indexOf('0' + side) >= 0) {
                    Check.due("make(" + m + ", " + s + ")", 0, hall.make(m, s));
                    Check.holds("make(" + m + ", " + s + ") is magic", Naive.magic(Naive.read(hall, 0, s)) && (hall.laws(0) & 79) == 79);
                } else {
                    Check.fails("make(" + m + ", " + s + ")", Check.ISE, () -> hall.make(m, s));
                    Check.fails("nothing was added", Check.IOOBE, () -> hall.at(0, 0, 0));
                }
            }
        }
    }

    private static void makeRefuses() {
        LoshuHall hall = new LoshuHall();
        for (int far : FAR) {
            Check.fails("make side " + far, Check.IAE, () -> hall.make(LoshuHall.SIEGE, far));
            Check.fails("make maker " + far, Check.IAE, () -> hall.make(far, 3));
        }
        Check.fails("make maker 4", Check.IAE, () -> hall.make(4, 3));
        Check.fails("make maker 4, side 2", Check.IAE, () -> hall.make(4, 2));
        Check.fails("make side 0", Check.IAE, () -> hall.make(LoshuHall.LUX, 0));
        for (int i = 0; i < 8; i++) {
            Check.due("make", i, hall.make(LoshuHall.SIEGE, 9));
        }
        Check.fails("a ninth made", Check.ISE, () -> hall.make(LoshuHall.SIEGE, 9));
        Check.fails("a ninth that no maker holds for", Check.ISE, () -> hall.make(LoshuHall.SIEGE, 2));
        Check.fails("a ninth of the side 10", Check.IAE, () -> hall.make(LoshuHall.SIEGE, 10));
    }

    private static void lawsOfKnownSquares() {
        LoshuHall hall = new LoshuHall();
        // Duerer's square, and one of a knight's ways on a torus
        Naive.lay(hall, Naive.of(4, 16, 3, 2, 13, 5, 10, 11, 8, 9, 6, 7, 12, 4, 15, 14, 1));
        Naive.lay(hall, Naive.of(4, 1, 8, 11, 14, 12, 13, 2, 7, 6, 3, 16, 9, 15, 10, 5, 4));
        hall.square(9);
        hall.square(2);
        Check.due("laws of Duerer's square", 111, hall.laws(0));
        Check.due("laws of a pandiagonal square", 95, hall.laws(1));
        Check.due("laws of an EMPTY square", 190, hall.laws(2));
        hall.put(3, 0, 0, 1);
        hall.put(3, 1, 1, 1);
        Check.due("laws of 1 0 / 0 1", LoshuHall.ROWS | LoshuHall.COLUMNS | LoshuHall.POWERS, hall.laws(3));
        hall.put(3, 0, 1, 1);
        hall.put(3, 1, 0, 1);
        Check.due("laws of all 1", 191, hall.laws(3));
        Check.fails("laws of no square", Check.IOOBE, () -> hall.laws(4));
        Check.fails("laws of -1", Check.IOOBE, () -> hall.laws(-1));
    }

    private static void lawsOfOnePoint() {
        LoshuHall hall = new LoshuHall();
        hall.square(1);
        Check.due("laws of one EMPTY point", 190, hall.laws(0));
        hall.put(0, 0, 0, 2);
        Check.due("laws of one 2", 191, hall.laws(0));
        hall.put(0, 0, 0, 1);
        Check.due("laws of one 1", 255, hall.laws(0));
    }

    private static void lawsAre(String what, int laws, int side, int... numbers) {
        LoshuHall hall = new LoshuHall();
        Naive.lay(hall, Naive.of(side, numbers));
        Check.due(what, laws, hall.laws(0));
        Check.due(what + " again", laws, Naive.laws(Naive.of(side, numbers)));
    }

    private static void lawsOneByOne() {
        lawsAre("FULL alone", LoshuHall.FULL, 3, 1, 2, 3, 4, 5, 6, 7, 8, 8);
        lawsAre("no law", 0, 3, 1, 2, 3, 0, 5, 6, 7, 8, 1);
        lawsAre("ROWS and FULL", LoshuHall.FULL | LoshuHall.ROWS, 3, 1, 2, 6, 1, 4, 4, 6, 2, 1);
        lawsAre("COLUMNS and FULL", LoshuHall.FULL | LoshuHall.COLUMNS, 3, 1, 1, 7, 2, 4, 1, 6, 4, 1);
        lawsAre("OPPOSITE, NORMAL and FULL", LoshuHall.FULL | LoshuHall.OPPOSITE | LoshuHall.NORMAL, 2, 1, 2, 3, 4);
        lawsAre("the middle counts twice", LoshuHall.FULL, 3, 1, 2, 3, 4, 6, 6, 7, 8, 9);
        lawsAre("DIAGONALS, not BROKEN", LoshuHall.DIAGONALS, 3, 1, 2, 0, 0, 1, 0, 2, 0, 1);
    }

    private static void lawsAsInTheDocument() {
        Draw draw = new Draw(6);
        for (int run = 0; run < 4000; run++) {
            int side = 1 + draw.below(run % 3 == 0 ? 9 : 3);
            int[][] a = draw.square(side, 1 + draw.below(run % 2 == 0 ? 2 : side * side), 1 + draw.below(40));
            LoshuHall hall = new LoshuHall();
            Naive.lay(hall, a);
            Check.due("laws of a drawn square", Naive.laws(a), hall.laws(0));
        }
    }

    private static void sumsOfLines() {
        Draw draw = new Draw(7);
        for (int side = 1; side <= 9; side++) {
            int[][] a = draw.square(side, 999, 5);
            LoshuHall hall = new LoshuHall();
            Naive.lay(hall, a);
            for (int kind = 0; kind < 4; kind++) {
                for (int line = 0; line < side; line++) {
                    Check.due("sum(0, " + kind + ", " + line + "), side " + side, Naive.sum(a, kind, line), hall.sum(0, kind, line));
                }
            }
        }
        LoshuHall hall = new LoshuHall();
        Naive.lay(hall, Naive.of(3, 1, 2, 4, 8, 16, 32, 64, 128, 256));
        int[] due = {7, 56, 448, 73, 146, 292, 273, 98, 140, 161, 266, 84};
        for (int i = 0; i < 12; i++) {
            Check.due("sum of " + i, due[i], hall.sum(0, i / 3, i % 3));
        }
        for (int p = 0; p < 9; p++) {
            hall.put(0, p / 3, p % 3, 999);
        }
        Check.due("the highest sum", 2997, hall.sum(0, 3, 2));
    }

    private static void sumRefuses() {
        LoshuHall hall = new LoshuHall();
        hall.square(4);
        for (int far : FAR) {
            Check.fails("sum square " + far, Check.IOOBE, () -> hall.sum(far, 0, 0));
            Check.fails("sum kind " + far, Check.IAE, () -> hall.sum(0, far, 0));
            Check.fails("sum line " + far, Check.IAE, () -> hall.sum(0, 0, far));
            Check.fails("sum square, kind and line " + far, Check.IOOBE, () -> hall.sum(far, far, far));
        }
        Check.fails("sum kind 4", Check.IAE, () -> hall.sum(0, 4, 0));
        Check.fails("sum line 4", Check.IAE, () -> hall.sum(0, 3, 4));
        Check.due("sum line 3", 0, hall.sum(0, 3, 3));
    }

    private static void twoObjectsAreApart() {
        LoshuHall one = new LoshuHall();
        LoshuHall other = new LoshuHall();
        one.square(3);
        other.square(3);
        one.put(0, 1, 1, 5);
        Check.due("the other object", 0, other.at(0, 1, 1));
    }
}
