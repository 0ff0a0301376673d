/** Promise 9: same. */
public final class Promise09SameTest {
    private static final String CALL = "Promise 9, same: ";

    public static void main(String[] args) {
        Edges.noSuchSquare(CALL + "the first, ", (hall, square) -> Check.bit(hall.same(square, 0)));
        Edges.noSuchSquare(CALL + "the second, ", (hall, square) -> Check.bit(hall.same(0, square)));
        Edges.noSuchSquare(CALL + "both, ", (hall, square) -> Check.bit(hall.same(square, square)));
        squaresAreAskedByTheirNumbers();
        eachIsKinToItself();
        theEightFormsAreKin();
        unlikeSidesAreNoKin();
        othersAreNoKin();
        emptyPointsAreHeldToo();
        drawnSquares();
        Check.end("Promise09SameTest");
    }

    private static void areKin(String what, boolean due, int[][] one, int[][] other) {
        Halls.Laid laid = Halls.laid(one, other);
        Edges.answers(CALL + what, Check.bit(due), laid, hall -> Check.bit(hall.same(0, 1)));
        Edges.answers(CALL + what + ", the other way round", Check.bit(due), laid, hall -> Check.bit(hall.same(1, 0)));
    }

    private static void squaresAreAskedByTheirNumbers() {
        int[][][] squares = Halls.forms(8);
        squares[3] = Halls.counted(3);
        squares[7] = Naive.flipped(squares[3]);
        for (int count : new int[] {7, 8}) {
            Halls.Laid laid = Halls.laid(java.util.Arrays.copyOf(squares, count));
            for (int one = 0; one < count; one++) {
                for (int other = 0; other < count; other++) {
                    boolean due = (one % 4 == 3) == (other % 4 == 3);
                    Check.due(CALL + one + " and " + other + " of " + count, Check.bit(due),
                        Check.bit(laid.hall().same(one, other)));
                }
            }
        }
    }

    private static void eachIsKinToItself() {
        for (int side = 1; side <= 9; side++) {
            int[][][] squares = {Halls.counted(side), Halls.empty(side), Halls.with(Halls.counted(side), side - 1, 0)};
            for (int[][] square : squares) {
                Edges.answers(CALL + "SIDE " + side + ", one with itself", 1, Halls.laid(square),
                    hall -> Check.bit(hall.same(0, 0)));
            }
        }
    }

    private static void theEightFormsAreKin() {
        for (int side = 1; side <= 9; side++) {
            int[][] full = Halls.with(Halls.with(Halls.counted(side), 0, 999), side - 1, 0);
            for (int flips = 0; flips < 2; flips++) {
                for (int turns = 0; turns < 4; turns++) {
                    int[][] form = Naive.turned(flips == 0 ? full : Naive.flipped(full), turns);
                    areKin("SIDE " + side + ", the FORM behind a FLIP of " + flips + " and a TURN of " + turns, true, full, form);
                }
            }
        }
    }

    private static void unlikeSidesAreNoKin() {
        for (int one = 1; one <= 9; one++) {
            for (int other = 1; other <= 9; other++) {
                boolean due = one == other;
                areKin("the SIDES " + one + " and " + other + ", all EMPTY", due, Halls.empty(one), Halls.empty(other));
                areKin("the SIDES " + one + " and " + other + ", the first number alone", due,
                    Halls.with(Halls.empty(one), 0, 1), Halls.with(Halls.empty(other), 0, 1));
            }
        }
    }

    private static void othersAreNoKin() {
        areKin("behind DOWN", false, Halls.loShu(), Naive.changed(Halls.loShu(), LoshuHall.DOWN, 1));
        areKin("behind RIGHT", false, Halls.loShu(), Naive.changed(Halls.loShu(), LoshuHall.RIGHT, 2));
        areKin("behind COMPLEMENT to a FORM", true, Halls.loShu(), Naive.changed(Halls.loShu(), LoshuHall.COMPLEMENT, 10));
        areKin("behind COMPLEMENT to others", false, Halls.loShu(), Naive.changed(Halls.loShu(), LoshuHall.COMPLEMENT, 11));
        areKin("behind PAIRS that no FORM has", false, Halls.counted(4), Naive.changed(Halls.counted(4), LoshuHall.PAIRS, 0));
        for (int side = 1; side <= 9; side++) {
            for (int p = 0; p < side * side; p++) {
                int[][] full = Halls.counted(side);
                LoshuHall hall = Halls.of(full, Halls.with(Naive.turned(full, 1), p, 999));
                Check.due(CALL + "SIDE " + side + ", another number at " + p, 0, Check.bit(hall.same(0, 1)));
            }
        }
    }

    private static void emptyPointsAreHeldToo() {
        areKin("EMPTY and a number", false, Halls.empty(1), Halls.filled(1, 1));
        areKin("one number at a corner and at another", true, Halls.square(2, 5, 0, 0, 0), Halls.square(2, 0, 0, 5, 0));
        areKin("one number at a corner and in the middle", false, Halls.square(3, 5, 0, 0, 0, 0, 0, 0, 0, 0),
            Halls.square(3, 0, 0, 0, 0, 5, 0, 0, 0, 0));
        areKin("one number more", false, Halls.square(2, 5, 0, 0, 0), Halls.square(2, 5, 5, 0, 0));
    }

    private static void drawnSquares() {
        Draw draw = new Draw(9);
        for (int run = 0; run < 1000; run++) {
            int[][] a = draw.square(1 + draw.below(3), 2, 4);
            int[][] b = draw.square(1 + draw.below(3), 2, 4);
            LoshuHall hall = Halls.of(a, b);
            Check.due(CALL + "drawn SQUARES", Check.bit(Naive.kin(a, b)), Check.bit(hall.same(0, 1)));
        }
    }
}
