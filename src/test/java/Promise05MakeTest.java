import java.util.Arrays;

/** Promise 5: make. */
public final class Promise05MakeTest {
    private static final String CALL = "Promise 5, make: ";
    private static final String[] NAMES = {"SIEGE", "CROSS", "DIGITS", "LUX"};
    private static final String[] SIDES = {"13579", "48", "157", "6"};
    private static final int[] FAR = {Integer.MIN_VALUE, -1, 4, Integer.MAX_VALUE};
    private static final int[] FAR_SIDES = {Integer.MIN_VALUE, -1, 0, 10, Integer.MAX_VALUE};

    public static void main(String[] args) {
        siegeIsMade();
        crossIsMade();
        digitsAreMade();
        luxIsMade();
        siegeGoesRoundTheEdges();
        crossGoesByRemaindersBy4();
        digitsGoByRemainders();
        makersHoldForTheirSidesAlone();
        whatIsMadeIsMadeAnewEachTime();
        rangesAreKept();
        aNinthIsRefused();
        severalAreWrong();
        Check.end("Promise05MakeTest");
    }

    private static void isMade(int maker, int side, int[][] due) {
        String what = CALL + NAMES[maker] + " of the SIDE " + side;
        Edges.adds(what, due, LoshuHall::new, hall -> hall.make(maker, side));
        Edges.adds(what + " behind 7", due, Halls.laid(Halls.forms(7)), hall -> hall.make(maker, side));
    }

    private static void beginsWith(int maker, int side, int... numbers) {
        LoshuHall hall = new LoshuHall();
        hall.make(maker, side);
        for (int p = 0; p < numbers.length; p++) {
            Check.due(CALL + NAMES[maker] + " of the SIDE " + side + ", PLACE " + p, numbers[p], hall.at(0, p / side, p % side));
        }
    }

    private static void siegeIsMade() {
        for (int side = 1; side <= 9; side += 2) {
            isMade(LoshuHall.SIEGE, side, Naive.siege(side));
        }
        beginsWith(LoshuHall.SIEGE, 1, 1);
        beginsWith(LoshuHall.SIEGE, 3, 8, 1, 6, 3, 5, 7, 4, 9, 2);
        beginsWith(LoshuHall.SIEGE, 5, 17, 24, 1, 8, 15, 23, 5, 7, 14, 16, 4, 6, 13, 20, 22, 10, 12, 19, 21, 3, 11, 18, 25, 2, 9);
        beginsWith(LoshuHall.SIEGE, 7, 30, 39, 48, 1, 10, 19, 28, 38, 47, 7, 9, 18, 27, 29);
        beginsWith(LoshuHall.SIEGE, 9, 47, 58, 69, 80, 1, 12, 23, 34, 45, 57, 68, 79, 9, 11);
    }

    private static void crossIsMade() {
        isMade(LoshuHall.CROSS, 4, Naive.cross(4));
        isMade(LoshuHall.CROSS, 8, Naive.cross(8));
        beginsWith(LoshuHall.CROSS, 4, 16, 2, 3, 13, 5, 11, 10, 8, 9, 7, 6, 12, 4, 14, 15, 1);
        beginsWith(LoshuHall.CROSS, 8, 64, 2, 3, 61, 60, 6, 7, 57, 9, 55, 54, 12, 13, 51, 50, 16, 17, 47, 46, 20,
            21, 43, 42, 24, 40, 26, 27, 37, 36, 30, 31, 33, 32, 34);
    }

    private static void digitsAreMade() {
        isMade(LoshuHall.DIGITS, 1, Naive.digits(1));
        isMade(LoshuHall.DIGITS, 5, Naive.digits(5));
        isMade(LoshuHall.DIGITS, 7, Naive.digits(7));
        beginsWith(LoshuHall.DIGITS, 1, 1);
        beginsWith(LoshuHall.DIGITS, 5, 1, 12, 23, 9, 20, 8, 19, 5, 11, 22, 15, 21, 7, 18, 4, 17, 3, 14, 25, 6, 24, 10, 16,
            2, 13);
        beginsWith(LoshuHall.DIGITS, 7, 1, 16, 31, 46, 12, 27, 42, 10, 25);
    }

    private static void luxIsMade() {
        isMade(LoshuHall.LUX, 6, Naive.lux());
        beginsWith(LoshuHall.LUX, 6, 32, 29, 4, 1, 24, 21, 30, 31, 2, 3, 22, 23, 12, 9, 17, 20, 28, 25,
            10, 11, 18, 19, 26, 27, 13, 16, 36, 33, 5, 8, 14, 15, 34, 35, 6, 7);
    }

    private static void siegeGoesRoundTheEdges() {
        for (int middle = 0; middle <= 4; middle++) {
            int side = 2 * middle + 1;
            int[][] made = made(LoshuHall.SIEGE, side);
            String what = CALL + "SIEGE of the SIDE " + side + ", ";
            Check.due(what + "1 is in the column of the SIDE divided by 2, rounded down", 1, made[0][middle]);
            if (side > 1) {
                Check.due(what + "2 is above the row 0, in the last row", 2, made[side - 1][middle + 1]);
                Check.due(what + "the one behind the last column is in the column 0", made[side - middle][side - 1] + 1,
                    made[side - middle - 1][0]);
                Check.due(what + "there is a number already: one row lower", side + 1, made[2][middle - 1]);
                Check.due(what + "the last number is in the last row", side * side, made[side - 1][middle]);
            }
        }
    }

    private static void crossGoesByRemaindersBy4() {
        for (int side = 4; side <= 8; side += 4) {
            int[][] made = made(LoshuHall.CROSS, side);
            for (int p = 0; p < side * side; p++) {
                boolean isOnCross = "1001011001101001".charAt(p / side % 4 * 4 + p % side % 4) == '1';
                Check.due(CALL + "CROSS of the SIDE " + side + ", remainders by 4, PLACE " + p,
                    isOnCross ? side * side - p : p + 1, made[p / side][p % side]);
            }
        }
    }

    private static void digitsGoByRemainders() {
        int[][] made = made(LoshuHall.DIGITS, 7);
        Check.due(CALL + "DIGITS of the SIDE 7, no remainder to take", 7 * 5 + 4 + 1, made[1][2]);
        Check.due(CALL + "DIGITS of the SIDE 7, twice the column is beyond", 7 * 1 + 4 + 1, made[0][4]);
        Check.due(CALL + "DIGITS of the SIDE 7, twice the row is beyond", 7 * 4 + 1 + 1, made[4][0]);
        Check.due(CALL + "DIGITS of the SIDE 7, the last point", 7 * 4 + 4 + 1, made[6][6]);
    }

    private static int[][] made(int maker, int side) {
        LoshuHall hall = new LoshuHall();
        hall.make(maker, side);
        return Halls.read(hall, 0, side);
    }

    private static void makersHoldForTheirSidesAlone() {
        for (int maker = 0; maker < 4; maker++) {
            for (int side = 1; side <= 9; side++) {
                int m = maker;
                int s = side;
                String what = CALL + NAMES[m] + " and the SIDE " + s;
                if (SIDES[m].indexOf('0' + s) >= 0) {
                    Check.due(what + ": it holds", 0, new LoshuHall().make(m, s));
                } else {
                    Edges.refuses(what + ": it does not hold", Check.ISE, LoshuHall::new, hall -> hall.make(m, s));
                    Edges.refuses(what + ": it does not hold, behind 7", Check.ISE, Halls.laid(Halls.forms(7)),
                        hall -> hall.make(m, s));
                }
            }
        }
    }

    private static void whatIsMadeIsMadeAnewEachTime() {
        LoshuHall hall = new LoshuHall();
        hall.make(LoshuHall.SIEGE, 9);
        hall.change(0, LoshuHall.TURN, 1);
        hall.make(LoshuHall.LUX, 6);
        hall.make(LoshuHall.LUX, 6);
        hall.put(1, 0, 0, 999);
        hall.make(LoshuHall.LUX, 6);
        int[][] lux = Halls.read(hall, 2, 6);
        Check.due(CALL + "LUX behind a change of the SIDE 9", 32, lux[0][0]);
        Check.holds(CALL + "LUX behind LUX", Arrays.deepEquals(lux, Halls.read(hall, 3, 6)));
        Check.due(CALL + "what is put into one stays there", 999, hall.at(1, 0, 0));
        Check.holds(CALL + "the changed one stays", Arrays.deepEquals(Naive.turned(Naive.siege(9), 1), Halls.read(hall, 0, 9)));
    }

    private static void rangesAreKept() {
        for (int count : new int[] {0, 7}) {
            Halls.Laid laid = Halls.laid(Halls.forms(count));
            for (int side : new int[] {1, 4, 6, 9}) {
                Edges.range(CALL + "with " + count + " and the SIDE " + side + " the maker", 0, 3, laid,
                    (hall, maker) -> hall.make(maker, side));
            }
            for (int maker = 0; maker < 4; maker++) {
                int m = maker;
                Edges.range(CALL + "with " + count + " and " + NAMES[m] + " the side", 1, 9, laid,
                    (hall, side) -> hall.make(m, side));
            }
        }
    }

    private static void aNinthIsRefused() {
        int[] sides = {9, 8, 7, 6};
        for (int maker = 0; maker < 4; maker++) {
            int m = maker;
            Edges.refuses(CALL + "a ninth of " + NAMES[m], Check.ISE, Halls.laid(Halls.forms(8)), hall -> hall.make(m, sides[m]));
            Edges.refuses(CALL + "a ninth of " + NAMES[m] + " that does not hold", Check.ISE, Halls.laid(Halls.forms(8)),
                hall -> hall.make(m, 2));
        }
    }

    private static void severalAreWrong() {
        Halls.Laid full = Halls.laid(Halls.forms(8));
        for (int far : FAR) {
            Edges.refuses(CALL + "a ninth of the maker " + far, Check.IAE, full, hall -> hall.make(far, 3));
            Edges.refuses(CALL + "the maker " + far + " and a SIDE that none holds for", Check.IAE, LoshuHall::new,
                hall -> hall.make(far, 2));
            Edges.refuses(CALL + "the maker " + far + " and the side 0", Check.IAE, LoshuHall::new, hall -> hall.make(far, 0));
        }
        for (int far : FAR_SIDES) {
            for (int maker = 0; maker < 4; maker++) {
                int m = maker;
                Edges.refuses(CALL + NAMES[m] + " does not hold for the side " + far + ", which is out of its range",
                    Check.IAE, LoshuHall::new, hall -> hall.make(m, far));
                Edges.refuses(CALL + "a ninth of " + NAMES[m] + " and the side " + far, Check.IAE, full,
                    hall -> hall.make(m, far));
            }
        }
    }
}
