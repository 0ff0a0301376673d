/** Promise 22: dimension. */
public final class Promise22DimensionTest {
    private static final String CALL = "Promise 22, dimension: ";
    private static final int ROWS = LoshuHall.ROWS;
    private static final int COLUMNS = LoshuHall.COLUMNS;
    private static final int DIAGONALS = LoshuHall.DIAGONALS;
    private static final int BROKEN = LoshuHall.BROKEN;
    private static final int OPPOSITE = LoshuHall.OPPOSITE;
    private static final int ALL = ROWS | COLUMNS | DIAGONALS | BROKEN | OPPOSITE;

    public static void main(String[] args) {
        rangesAreKept();
        lawsThatAreNotToldAreRefused();
        eachLawAtEachSide();
        knownDimensions();
        squaresAreLeftAsTheyAre();
        callsDoNotHangTogether();
        Check.end("Promise22DimensionTest");
    }

    private static void dimensionIs(String what, int due, int side, int laws) {
        Edges.answers(CALL + what + ", SIDE " + side + ", laws " + laws, due, LoshuHall::new, hall -> hall.dimension(side, laws));
    }

    private static void rangesAreKept() {
        for (int laws = 0; laws <= ALL; laws += 2) {
            int l = laws;
            Edges.range(CALL + "laws " + l + ", the side", 1, 6, LoshuHall::new, (hall, side) -> hall.dimension(side, l));
        }
        for (int side = 1; side <= 6; side++) {
            int s = side;
            Edges.range(CALL + "SIDE " + s + ", the laws", 0, ALL, LoshuHall::new, (hall, laws) -> hall.dimension(s, laws));
        }
        for (int side : new int[] {7, 8, 9, 10, 256 + 3}) {
            Edges.refuses(CALL + "the side " + side, Check.IAE, LoshuHall::new, hall -> hall.dimension(side, 0));
        }
        for (int far : new int[] {Integer.MIN_VALUE, -1, 0, 7, Integer.MAX_VALUE}) {
            Edges.refuses(CALL + "the side " + far + " and the law FULL", Check.IAE, LoshuHall::new,
                hall -> hall.dimension(far, LoshuHall.FULL));
        }
    }

    private static void lawsThatAreNotToldAreRefused() {
        int[] wrong = {LoshuHall.FULL, LoshuHall.NORMAL, LoshuHall.POWERS, ALL | LoshuHall.FULL, ALL | LoshuHall.NORMAL,
            ALL | LoshuHall.POWERS,
            ROWS | LoshuHall.FULL, 254, 255, 256, 1 << 16 | ROWS, 1 << 30, -2, Integer.MIN_VALUE | ROWS, Integer.MAX_VALUE - 1};
        for (int laws : wrong) {
            for (int side = 1; side <= 6; side++) {
                int s = side;
                Edges.refuses(CALL + "SIDE " + s + ", the laws " + laws, Check.IAE, LoshuHall::new,
                    hall -> hall.dimension(s, laws));
            }
        }
    }

    private static void eachLawAtEachSide() {
        for (int side = 1; side <= 6; side++) {
            for (int laws = 0; laws <= ALL; laws += 2) {
                dimensionIs("by the second reading", Naive.dimension(side, laws), side, laws);
            }
        }
    }

    private static void knownDimensions() {
        for (int side = 1; side <= 6; side++) {
            int points = side * side;
            dimensionIs("no law: each point is free", points, side, 0);
            dimensionIs("ROWS: all but one tell nothing new", points - side + 1, side, ROWS);
            dimensionIs("COLUMNS: all but one tell nothing new", points - side + 1, side, COLUMNS);
            dimensionIs("ROWS and COLUMNS", (side - 1) * (side - 1) + 1, side, ROWS | COLUMNS);
            dimensionIs("OPPOSITE: its sum is one more", (points + 1) / 2 - points % 2 + 1, side, OPPOSITE);
        }
        dimensionIs("all laws of one point", 1, 1, ALL);
        dimensionIs("DIAGONALS of one point", 1, 1, DIAGONALS);
        dimensionIs("BROKEN of one point", 1, 1, BROKEN);
        dimensionIs("OPPOSITE of one point, with itself", 1, 1, OPPOSITE);
        dimensionIs("DIAGONALS", 3, 2, DIAGONALS);
        dimensionIs("BROKEN: two diagonals of each sort are the same", 3, 2, BROKEN);
        dimensionIs("magic", 1, 2, ROWS | COLUMNS | DIAGONALS);
        dimensionIs("magic", 3, 3, ROWS | COLUMNS | DIAGONALS);
        dimensionIs("magic", 8, 4, ROWS | COLUMNS | DIAGONALS);
        dimensionIs("magic", 15, 5, ROWS | COLUMNS | DIAGONALS);
        dimensionIs("magic", 24, 6, ROWS | COLUMNS | DIAGONALS);
        dimensionIs("magic, and OPPOSITE follows", 3, 3, ROWS | COLUMNS | DIAGONALS | OPPOSITE);
        dimensionIs("pandiagonal", 1, 3, ROWS | COLUMNS | BROKEN);
        dimensionIs("pandiagonal", 5, 4, ROWS | COLUMNS | BROKEN);
        dimensionIs("pandiagonal", 9, 5, ROWS | COLUMNS | BROKEN);
        dimensionIs("DIAGONALS are among the BROKEN ones", Naive.dimension(6, BROKEN), 6, BROKEN | DIAGONALS);
    }

    private static void squaresAreLeftAsTheyAre() {
        for (int count : new int[] {0, 7, 8}) {
            Edges.answers(CALL + "with " + count + " SQUARES", 8, Halls.laid(Halls.forms(count)), hall -> hall.dimension(4, 14));
            Edges.refuses(CALL + "the side 7 with " + count + " SQUARES", Check.IAE, Halls.laid(Halls.forms(count)),
                hall -> hall.dimension(7, 14));
            Edges.refuses(CALL + "the law FULL with " + count + " SQUARES", Check.IAE, Halls.laid(Halls.forms(count)),
                hall -> hall.dimension(4, 1));
        }
    }

    private static void callsDoNotHangTogether() {
        LoshuHall hall = new LoshuHall();
        Check.due(CALL + "a large one", 24, hall.dimension(6, 14));
        Check.due(CALL + "a small one behind it", 3, hall.dimension(3, 14));
        Check.due(CALL + "no law behind it", 36, hall.dimension(6, 0));
        Check.fails(CALL + "a refused one behind it", Check.IAE, () -> hall.dimension(6, 64));
        Check.due(CALL + "the large one again", 24, hall.dimension(6, 14));
    }
}
