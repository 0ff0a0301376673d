/** Promise 8: change. */
public final class Promise08ChangeTest {
    private static final String CALL = "Promise 8, change: ";
    private static final String[] NAMES = {"TURN", "FLIP", "COMPLEMENT", "DOWN", "RIGHT", "PAIRS"};
    private static final int[] FAR = {Integer.MIN_VALUE, -1, 1999, Integer.MAX_VALUE};

    public static void main(String[] args) {
        squaresAreAskedByTheirNumbers();
        rangesAreKept();
        severalAreWrong();
        ofNineNumbers();
        eachChangeAtEachSide();
        shiftsGoRoundTheEdges();
        byNothing();
        allEmptyAndAllAlike();
        pointsAreCounted();
        complementBounds();
        complementFailsAsAWhole();
        drawnSquares();
        Check.end("Promise08ChangeTest");
    }

    private static int mostBy(int change, int side) {
        int[] most = {3, 1, 1998, side - 1, side - 1, side - 1};
        return most[change];
    }

    private static void changesTo(String what, int[][] square, int change, int by, int points, int[][] due) {
        Edges.changes(CALL + NAMES[change] + " of " + by + ", " + what, points, 1, due,
            Halls.laid(Halls.latin(4, 1), square, Halls.latin(5, 2)),
            hall -> hall.change(1, change, by));
        Check.due(CALL + NAMES[change] + " of " + by + ", " + what + ", by the second reading", points,
            Naive.differing(square, due));
    }

    private static void squaresAreAskedByTheirNumbers() {
        int[] by = {1, 1, 10, 1, 1, 0};
        for (int change = 0; change < 6; change++) {
            int c = change;
            Edges.noSuchSquare(CALL + NAMES[c] + ", ", (hall, square) -> hall.change(square, c, by[c]));
            Edges.eachSquare(CALL + NAMES[c] + ", ", Halls.forms(8), (hall, square) -> hall.change(square, c, by[c]));
            int[][][] forms = Halls.forms(8);
            for (int square : new int[] {0, 6, 7}) {
                int[][] due = Naive.changed(forms[square], c, by[c]);
                Edges.changes(CALL + NAMES[c] + " of the SQUARE " + square + " of 8", Naive.differing(forms[square], due),
                    square, due,
                    Halls.laid(forms), hall -> hall.change(square, c, by[c]));
            }
        }
    }

    private static void rangesAreKept() {
        for (int side = 1; side <= 9; side++) {
            Halls.Laid laid = Halls.laid(Halls.counted(side));
            Edges.range(CALL + "SIDE " + side + ", the change", 0, 5, laid, (hall, change) -> hall.change(0, change, 0));
            for (int change = 0; change < 6; change++) {
                int c = change;
                Edges.range(CALL + "SIDE " + side + ", " + NAMES[c] + " by", 0, mostBy(c, side), laid,
                    (hall, by) -> hall.change(0, c, by));
                Edges.range(CALL + "SIDE " + side + ", all EMPTY, " + NAMES[c] + " by", 0, mostBy(c, side),
                    Halls.laid(Halls.empty(side)),
                    (hall, by) -> hall.change(0, c, by));
            }
        }
    }

    private static void severalAreWrong() {
        Halls.Laid laid = Halls.laid(Halls.loShu());
        for (int far : FAR) {
            Edges.refuses(CALL + "no SQUARE and the change " + far, Check.IOOBE, laid, hall -> hall.change(1, far, 0));
            Edges.refuses(CALL + "no SQUARE and by " + far, Check.IOOBE, laid, hall -> hall.change(-1, LoshuHall.TURN, far));
            Edges.refuses(CALL + "no SQUARE in a new object, the change and by " + far, Check.IOOBE, LoshuHall::new,
                hall -> hall.change(0, far, far));
            Edges.refuses(CALL + "the change and by " + far, Check.IAE, laid, hall -> hall.change(0, far, far));
            Edges.refuses(CALL + "no SQUARE and COMPLEMENT of " + far, Check.IOOBE, laid,
                hall -> hall.change(1, LoshuHall.COMPLEMENT, far));
            Edges.refuses(CALL + "COMPLEMENT of " + far + ", by which numbers would be out of their range too", Check.IAE, laid,
                hall -> hall.change(0, LoshuHall.COMPLEMENT, far));
        }
        Edges.refuses(CALL + "the change 6 and by 0", Check.IAE, laid, hall -> hall.change(0, 6, 0));
        Edges.refuses(CALL + "the change 6 and by 1998", Check.IAE, laid, hall -> hall.change(0, 6, 1998));
    }

    private static void ofNineNumbers() {
        nineNumbersTo(LoshuHall.TURN, 0, 0, 1, 2, 3, 4, 5, 6, 7, 8, 0);
        nineNumbersTo(LoshuHall.TURN, 1, 8, 7, 4, 1, 8, 5, 2, 0, 6, 3);
        nineNumbersTo(LoshuHall.TURN, 2, 8, 0, 8, 7, 6, 5, 4, 3, 2, 1);
        nineNumbersTo(LoshuHall.TURN, 3, 8, 3, 6, 0, 2, 5, 8, 1, 4, 7);
        nineNumbersTo(LoshuHall.FLIP, 0, 0, 1, 2, 3, 4, 5, 6, 7, 8, 0);
        nineNumbersTo(LoshuHall.FLIP, 1, 6, 3, 2, 1, 6, 5, 4, 0, 8, 7);
        nineNumbersTo(LoshuHall.COMPLEMENT, 10, 7, 9, 8, 7, 6, 5, 4, 3, 2, 0);
        nineNumbersTo(LoshuHall.COMPLEMENT, 9, 8, 8, 7, 6, 5, 4, 3, 2, 1, 0);
        nineNumbersTo(LoshuHall.COMPLEMENT, 1000, 8, 999, 998, 997, 996, 995, 994, 993, 992, 0);
        nineNumbersTo(LoshuHall.DOWN, 0, 0, 1, 2, 3, 4, 5, 6, 7, 8, 0);
        nineNumbersTo(LoshuHall.DOWN, 1, 9, 7, 8, 0, 1, 2, 3, 4, 5, 6);
        nineNumbersTo(LoshuHall.DOWN, 2, 9, 4, 5, 6, 7, 8, 0, 1, 2, 3);
        nineNumbersTo(LoshuHall.RIGHT, 0, 0, 1, 2, 3, 4, 5, 6, 7, 8, 0);
        nineNumbersTo(LoshuHall.RIGHT, 1, 9, 3, 1, 2, 6, 4, 5, 0, 7, 8);
        nineNumbersTo(LoshuHall.RIGHT, 2, 9, 2, 3, 1, 5, 6, 4, 8, 0, 7);
        nineNumbersTo(LoshuHall.PAIRS, 0, 8, 0, 8, 7, 6, 5, 4, 3, 2, 1);
        nineNumbersTo(LoshuHall.PAIRS, 1, 0, 1, 2, 3, 4, 5, 6, 7, 8, 0);
        nineNumbersTo(LoshuHall.PAIRS, 2, 8, 0, 8, 7, 6, 5, 4, 3, 2, 1);
        int[][] sixteen = Halls.counted(4);
        changesTo("the outer ones of the SIDE 4", sixteen, LoshuHall.PAIRS, 0, 12,
            Halls.square(4, 16, 14, 15, 13, 8, 6, 7, 5, 12, 10, 11, 9, 4, 2, 3, 1));
        changesTo("the inner ones of the SIDE 4", sixteen, LoshuHall.PAIRS, 2, 12,
            Halls.square(4, 1, 3, 2, 4, 9, 11, 10, 12, 5, 7, 6, 8, 13, 15, 14, 16));
    }

    private static void nineNumbersTo(int change, int by, int points, int... due) {
        changesTo("nine points", Halls.square(3, 1, 2, 3, 4, 5, 6, 7, 8, 0), change, by, points, Halls.square(3, due));
    }

    private static void eachChangeAtEachSide() {
        for (int side = 1; side <= 9; side++) {
            int[][] full = Halls.counted(side);
            int[][] holed = Halls.with(Halls.with(full, 0, 0), side * side - 1, 0);
            for (int change = 0; change < 6; change++) {
                for (int by = 0; by <= mostBy(change, side); by++) {
                    int told = change == LoshuHall.COMPLEMENT ? side * side + 1 : by;
                    int[][] due = Naive.changed(full, change, told);
                    changesTo("SIDE " + side + ", full", full, change, told, Naive.differing(full, due), due);
                    int[][] holedDue = Naive.changed(holed, change, told);
                    changesTo("SIDE " + side + ", corners EMPTY", holed, change, told, Naive.differing(holed, holedDue),
                        holedDue);
                    if (change == LoshuHall.COMPLEMENT) {
                        break;
                    }
                }
            }
        }
    }

    private static void shiftsGoRoundTheEdges() {
        int[][] four = Halls.counted(4);
        changesTo("SIDE 4: the row 0 less 3 is below 0", four, LoshuHall.DOWN, 3, 16,
            Halls.square(4, 5, 6, 7, 8, 9, 10, 11, 12, 13, 14, 15, 16, 1, 2, 3, 4));
        changesTo("SIDE 4: the column 0 less 3 is below 0", four, LoshuHall.RIGHT, 3, 16,
            Halls.square(4, 2, 3, 4, 1, 6, 7, 8, 5, 10, 11, 12, 9, 14, 15, 16, 13));
        changesTo("SIDE 4: the last row comes first", four, LoshuHall.DOWN, 1, 16,
            Halls.square(4, 13, 14, 15, 16, 1, 2, 3, 4, 5, 6, 7, 8, 9, 10, 11, 12));
        changesTo("SIDE 4: the last column comes first", four, LoshuHall.RIGHT, 1, 16,
            Halls.square(4, 4, 1, 2, 3, 8, 5, 6, 7, 12, 9, 10, 11, 16, 13, 14, 15));
    }

    private static void byNothing() {
        for (int side = 1; side <= 9; side++) {
            int[][] full = Halls.counted(side);
            for (int change : new int[] {LoshuHall.TURN, LoshuHall.FLIP, LoshuHall.DOWN, LoshuHall.RIGHT}) {
                changesTo("SIDE " + side + ": nothing becomes another", full, change, 0, 0, full);
            }
        }
        for (int side = 1; side <= 9; side += 2) {
            int[][] full = Halls.counted(side);
            changesTo("SIDE " + side + ": the middle ones keep their places", full, LoshuHall.PAIRS, side / 2, 0, full);
        }
        int[][] one = Halls.filled(1, 4);
        for (int turns = 0; turns <= 3; turns++) {
            changesTo("SIDE 1", one, LoshuHall.TURN, turns, 0, one);
        }
        changesTo("SIDE 1", one, LoshuHall.FLIP, 1, 0, one);
        changesTo("SIDE 1, to itself", one, LoshuHall.COMPLEMENT, 8, 0, one);
        changesTo("SIDE 1, to another", one, LoshuHall.COMPLEMENT, 9, 1, Halls.filled(1, 5));
    }

    private static void allEmptyAndAllAlike() {
        for (int side = 1; side <= 9; side++) {
            int[][] alike = Halls.filled(side, 500);
            int[][] empty = Halls.empty(side);
            for (int change = 0; change < 6; change++) {
                int by = change == LoshuHall.COMPLEMENT ? 1000 : Math.min(1, side - 1);
                changesTo("SIDE " + side + ", all alike", alike, change, by, 0, alike);
                changesTo("SIDE " + side + ", all EMPTY", empty, change, by, 0, empty);
            }
            changesTo("SIDE " + side + ", all EMPTY stay EMPTY", empty, LoshuHall.COMPLEMENT, 0, 0, empty);
            changesTo("SIDE " + side + ", all EMPTY stay EMPTY", empty, LoshuHall.COMPLEMENT, 1998, 0, empty);
        }
    }

    private static void pointsAreCounted() {
        int[][] square = Halls.square(2, 1, 0, 0, 0);
        changesTo("one in place of none, none in place of one", square, LoshuHall.TURN, 1, 2, Halls.square(2, 0, 1, 0, 0));
        changesTo("one in place of none, none in place of one", square, LoshuHall.DOWN, 1, 2, Halls.square(2, 0, 0, 1, 0));
        changesTo("one in place of none, none in place of one", square, LoshuHall.PAIRS, 1, 2, Halls.square(2, 0, 0, 0, 1));
        changesTo("another in place of one, none in place of one", Halls.square(2, 1, 2, 0, 0), LoshuHall.TURN, 1, 3,
            Halls.square(2, 0, 1, 0, 2));
        changesTo("some become what was there", Halls.square(2, 1, 1, 2, 2), LoshuHall.TURN, 1, 2, Halls.square(2, 2, 1, 2, 1));
    }

    private static void complementTo(int by, int[][] square, int points, int... due) {
        changesTo("of numbers", square, LoshuHall.COMPLEMENT, by, points, Halls.square(square.length, due));
    }

    private static void complementFails(int by, int... numbers) {
        Edges.refuses(CALL + "COMPLEMENT of " + by + " of " + java.util.Arrays.toString(numbers), Check.ISE,
            Halls.laid(Halls.square(2, numbers)),
            hall -> hall.change(0, LoshuHall.COMPLEMENT, by));
    }

    private static void complementBounds() {
        complementTo(2, Halls.square(2, 1, 1, 1, 1), 0, 1, 1, 1, 1);
        complementTo(2, Halls.square(2, 0, 1, 0, 0), 0, 0, 1, 0, 0);
        complementTo(3, Halls.square(2, 1, 2, 0, 1), 3, 2, 1, 0, 2);
        complementTo(1000, Halls.square(2, 1, 999, 0, 500), 2, 999, 1, 0, 500);
        complementTo(1998, Halls.square(2, 999, 0, 999, 999), 0, 999, 0, 999, 999);
        complementTo(1997, Halls.square(2, 999, 998, 0, 0), 2, 998, 999, 0, 0);
        complementFails(0, 1, 0, 0, 0);
        complementFails(1, 1, 0, 0, 0);
        complementFails(2, 2, 0, 0, 0);
        complementFails(999, 999, 0, 0, 0);
        complementFails(998, 999, 0, 0, 0);
        complementFails(1001, 1, 0, 0, 0);
        complementFails(1998, 998, 0, 0, 0);
        complementFails(1998, 1, 0, 0, 0);
    }

    private static void complementFailsAsAWhole() {
        for (int side = 1; side <= 9; side++) {
            for (int p : new int[] {0, side * side / 2, side * side - 1}) {
                Halls.Laid low = Halls.laid(Halls.with(Halls.filled(side, 5), p, 10), Halls.filled(side, 5));
                Edges.refuses(CALL + "COMPLEMENT, SIDE " + side + ", below 1 at " + p + " alone", Check.ISE, low,
                    hall -> hall.change(0, LoshuHall.COMPLEMENT, 10));
                Halls.Laid high = Halls.laid(Halls.with(Halls.filled(side, 505), p, 1), Halls.filled(side, 505));
                Edges.refuses(CALL + "COMPLEMENT, SIDE " + side + ", above 999 at " + p + " alone", Check.ISE, high,
                    hall -> hall.change(0, LoshuHall.COMPLEMENT, 1001));
            }
        }
    }

    private static void drawnSquares() {
        Draw draw = new Draw(8);
        for (int run = 0; run < 600; run++) {
            int side = 1 + run % 9;
            int change = draw.below(6);
            int by = change == LoshuHall.COMPLEMENT ? 1000 : draw.below(mostBy(change, side) + 1);
            int[][] a = draw.square(side, 1 + draw.below(999), 6);
            int[][] due = Naive.changed(a, change, by);
            LoshuHall hall = Halls.of(a);
            Check.due(CALL + "a drawn SQUARE, " + NAMES[change] + " of " + by, Naive.differing(a, due),
                hall.change(0, change, by));
            Check.due(CALL + "a drawn SQUARE, " + NAMES[change] + " of " + by + ", points that differ", 0,
                Naive.differing(due, Halls.read(hall, 0, side)));
        }
    }
}
