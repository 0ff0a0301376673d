import java.util.Arrays;

/** What must hold where two promises meet, whatever the single answers are. */
public final class MeetTest {
    private static final int MAGIC = LoshuHall.ROWS | LoshuHall.COLUMNS | LoshuHall.DIAGONALS;
    private static final int COMPLETE = MAGIC | LoshuHall.FULL | LoshuHall.NORMAL;

    public static void main(String[] args) {
        squaresAreNumberedHoweverTheyCame();
        turnsAndFlipsLeaveTheClass();
        changesAndThoseBack();
        lawsThatChangesKeep();
        linesUnderChanges();
        completionsLaidAsSquares();
        estimatesOfWhatIsComplete();
        givensLeaveOneCompletion();
        slipsMend();
        orthogonalOnesStackNormal();
        productsKeepLaws();
        crossingsUnderChanges();
        dimensionsOfMoreLaws();
        Check.end("MeetTest");
    }

    private static void squaresAreNumberedHoweverTheyCame() {
        String meet = "Promises 2, 5, 19 and 20, numbers in one order: ";
        LoshuHall hall = new LoshuHall();
        Check.due(meet + "square", 0, hall.square(1));
        Check.due(meet + "put", 0, hall.put(0, 0, 0, 1));
        Check.due(meet + "make", 1, hall.make(LoshuHall.SIEGE, 3));
        Check.due(meet + "stack", 2, hall.stack(0, 0));
        Check.due(meet + "product", 3, hall.product(1, 2));
        Check.fails(meet + "a refused product", Check.ISE, () -> hall.product(3, hall.make(LoshuHall.CROSS, 4)));
        Check.due(meet + "make, behind a refused one", 5, hall.make(LoshuHall.LUX, 6));
        Check.due(meet + "product of the stacked", 6, hall.product(2, 2));
        Check.due(meet + "stack of the multiplied", 7, hall.stack(6, 6));
        Check.fails(meet + "a ninth by square", Check.ISE, () -> hall.square(1));
        Check.fails(meet + "a ninth by make", Check.ISE, () -> hall.make(LoshuHall.SIEGE, 3));
        Check.fails(meet + "a ninth by stack", Check.ISE, () -> hall.stack(7, 7));
        Check.fails(meet + "a ninth by product", Check.ISE, () -> hall.product(7, 7));
    }

    private static void turnsAndFlipsLeaveTheClass() {
        for (int[][] square : new int[][][] {Halls.loShu(), Halls.four(), Halls.counted(9), Halls.firstEmpty(Halls.counted(5), 7)}) {
            String meet = "Promises 8 to 12, SIDE " + square.length + ": ";
            for (int turn = 0; turn < 4; turn++) {
                for (int flip = 0; flip < 2; flip++) {
                    String of = "behind a TURN of " + turn + " and a FLIP of " + flip;
                    LoshuHall hall = Halls.of(square, square);
                    int[][] least = leastOf(hall, 0, square.length);
                    hall.change(1, LoshuHall.TURN, turn);
                    hall.change(1, LoshuHall.FLIP, flip);
                    Check.holds(meet + "KIN " + of, hall.same(0, 1) && hall.same(1, 0));
                    Check.due(meet + "one class " + of, 1, hall.classes());
                    Check.due(meet + "as many like FORMS " + of, hall.kin(0), hall.kin(1));
                    Check.holds(meet + "the same LEAST FORM " + of, Arrays.deepEquals(least, leastOf(hall, 1, square.length)));
                    hall.put(1, 0, 0, 999);
                    Check.holds(meet + "no KIN any more " + of, !hall.same(0, 1) && hall.classes() == 2);
                }
            }
        }
    }

    private static int[][] leastOf(LoshuHall hall, int square, int side) {
        int[][] least = new int[side][side];
        for (int place = 0; place < side * side; place++) {
            least[place / side][place % side] = hall.least(square, place / side, place % side);
        }
        return least;
    }

    private static void changesAndThoseBack() {
        for (int side = 1; side <= 9; side++) {
            int[][] square = Halls.firstEmpty(Halls.counted(side), side / 2);
            int[][] thereAndBack = {
                {LoshuHall.TURN, 0, 0}, {LoshuHall.TURN, 1, 3}, {LoshuHall.TURN, 2, 2}, {LoshuHall.TURN, 3, 1},
                {LoshuHall.FLIP, 0, 0}, {LoshuHall.FLIP, 1, 1}, {LoshuHall.COMPLEMENT, 500, 500},
                {LoshuHall.DOWN, side - 1, 1 % side}, {LoshuHall.DOWN, 1 % side, side - 1},
                {LoshuHall.RIGHT, side - 1, 1 % side}, {LoshuHall.RIGHT, 1 % side, side - 1},
                {LoshuHall.PAIRS, side / 3, side / 3}, {LoshuHall.PAIRS, 0, side - 1},
            };
            for (int[] way : thereAndBack) {
                String meet = "Promise 8, SIDE " + side + ", " + way[0] + " of " + way[1] + " and back by " + way[2] + ": ";
                LoshuHall hall = Halls.of(square);
                int changed = hall.change(0, way[0], way[1]);
                Check.due(meet + "as many points", changed, hall.change(0, way[0], way[2]));
                Check.holds(meet + "all as it was", Halls.isLike(square, hall, 0));
            }
        }
    }

    /** Of a NORMAL square also the COMPLEMENT of the SIDE times itself, and 1, is NORMAL. */
    private static void lawsThatChangesKeep() {
        int[][][] squares = {Halls.loShu(), Halls.four(), Halls.brokenFour(), Naive.digits(5), Naive.lux(), Naive.siege(9)};
        for (int[][] square : squares) {
            int side = square.length;
            String meet = "Promises 6 and 8, SIDE " + side + ": ";
            int laws = Halls.of(square).laws(0);
            int shifted = laws & ~(LoshuHall.DIAGONALS | LoshuHall.OPPOSITE);
            for (int by = 0; by < side; by++) {
                Check.due(meet + "PAIRS of " + by + " keep all but BROKEN", laws & ~LoshuHall.BROKEN,
                    lawsBehind(square, LoshuHall.PAIRS, by) & ~LoshuHall.BROKEN);
                Check.due(meet + "DOWN of " + by + " keeps", shifted, lawsBehind(square, LoshuHall.DOWN, by) & shifted);
                Check.due(meet + "RIGHT of " + by + " keeps", shifted, lawsBehind(square, LoshuHall.RIGHT, by) & shifted);
            }
            for (int by = 0; by < 4; by++) {
                Check.due(meet + "a TURN of " + by + " keeps all", laws, lawsBehind(square, LoshuHall.TURN, by));
            }
            Check.due(meet + "a FLIP keeps all", laws, lawsBehind(square, LoshuHall.FLIP, 1));
            Check.due(meet + "the COMPLEMENT keeps all", laws, lawsBehind(square, LoshuHall.COMPLEMENT, side * side + 1));
        }
    }

    private static int lawsBehind(int[][] square, int change, int by) {
        LoshuHall hall = Halls.of(square);
        hall.change(0, change, by);
        return hall.laws(0);
    }

    private static void linesUnderChanges() {
        for (int side = 1; side <= 9; side++) {
            int[][] square = Halls.firstEmpty(Halls.counted(side), side / 2);
            String meet = "Promises 7 and 8, SIDE " + side + ": ";
            int last = side - 1;
            for (int line = 0; line < side; line++) {
                LoshuHall hall = Halls.of(square, square, square, square, square);
                hall.change(1, LoshuHall.TURN, 1);
                hall.change(2, LoshuHall.FLIP, 1);
                hall.change(3, LoshuHall.DOWN, last);
                hall.change(4, LoshuHall.RIGHT, last);
                Check.due(meet + "a TURN: a row is a column", hall.sum(0, 1, line), hall.sum(1, 0, line));
                Check.due(meet + "a TURN: a column is a row", hall.sum(0, 0, last - line), hall.sum(1, 1, line));
                Check.due(meet + "a FLIP: a row stays", hall.sum(0, 0, line), hall.sum(2, 0, line));
                Check.due(meet + "a FLIP: a diagonal to the left", hall.sum(0, 2, last - line), hall.sum(2, 3, line));
                Check.due(meet + "DOWN: a row", hall.sum(0, 0, (line + 1) % side), hall.sum(3, 0, line));
                Check.due(meet + "DOWN: a diagonal to the right", hall.sum(0, 2, (line + last) % side), hall.sum(3, 2, line));
                Check.due(meet + "RIGHT: a column", hall.sum(0, 1, (line + 1) % side), hall.sum(4, 1, line));
                Check.due(meet + "RIGHT: a diagonal to the left", hall.sum(0, 3, (line + 1) % side), hall.sum(4, 3, line));
            }
        }
    }

    private static void completionsLaidAsSquares() {
        int[][][] holed = {
            Halls.empty(1), Halls.empty(3), Halls.with(Halls.empty(3), 4, 5), Halls.firstEmpty(Halls.four(), 8),
            Halls.lastEmpty(Halls.brokenFour(), 9), Halls.four(), Halls.firstEmpty(Halls.brokenFour(), 1),
        };
        for (int[][] square : holed) {
            int side = square.length;
            String meet = "Promises 6, 13 and 14, SIDE " + side + ": ";
            LoshuHall hall = Halls.of(square);
            int count = hall.completions(0);
            int[][] ahead = Halls.empty(side);
            for (int which = 0; which < Math.min(count, 12); which++) {
                int[][] completion = completionOf(hall, which, side);
                Check.holds(meet + "each comes behind the one ahead of it", Naive.compare(ahead, completion) < 0);
                ahead = completion;
                isComplete(meet + "the COMPLETION " + which, completion);
                Check.holds(meet + "the numbers that were there stay", agrees(square, completion));
            }
            Check.due(meet + "none behind the last one", LoshuHall.NONE, hall.completion(0, count, 0, 0));
        }
        LoshuHall hall = Halls.of(Halls.empty(3));
        int[][][] all = new int[8][][];
        for (int which = 0; which < all.length; which++) {
            all[which] = completionOf(hall, which, 3);
        }
        Check.due("Promises 12 to 14, the COMPLETIONS of an EMPTY SIDE 3 are KIN", 1, Halls.of(all).classes());
    }

    private static int[][] completionOf(LoshuHall hall, int which, int side) {
        int[][] completion = new int[side][side];
        for (int place = 0; place < side * side; place++) {
            completion[place / side][place % side] = hall.completion(0, which, place / side, place % side);
        }
        return completion;
    }

    private static void isComplete(String what, int[][] square) {
        LoshuHall hall = Halls.of(square);
        Check.due(what + " keeps the LAWS", COMPLETE, hall.laws(0) & COMPLETE);
        Check.due(what + " is its own only one", 1, hall.completions(0));
        Check.due(what + " has the ESTIMATE 1", 1, hall.estimate(0, 1));
        int most = square.length * square.length;
        Check.holds(what + " has as many givens, or its SIDE is 4", square.length == 4 || hall.givens(0, false) < most);
    }

    private static boolean agrees(int[][] square, int[][] completion) {
        for (int place = 0; place < square.length * square.length; place++) {
            int number = square[place / square.length][place % square.length];
            if (number != LoshuHall.EMPTY && number != completion[place / square.length][place % square.length]) {
                return false;
            }
        }
        return true;
    }

    /** Of one EMPTY point there is one choice if it has a COMPLETION, and none otherwise. */
    private static void estimatesOfWhatIsComplete() {
        for (int place = 0; place < 16; place++) {
            String meet = "Promises 13 and 15, EMPTY at " + place + ": ";
            LoshuHall hall = Halls.of(Halls.with(Halls.four(), place, 0));
            Check.due(meet + "one", hall.completions(0), hall.estimate(0, place));
            hall.put(0, (place / 4 + 1) % 4, place % 4, 17);
            Check.due(meet + "no COMPLETION behind a number that is too high", 0, hall.completions(0));
            Check.due(meet + "no choice behind a number that is too high", 0, hall.estimate(0, place));
        }
    }

    private static void givensLeaveOneCompletion() {
        for (int[][] form : Halls.forms(8)) {
            String meet = "Promises 3, 13 and 16: ";
            int set = Halls.of(form).givens(0, true);
            Check.due(meet + "so many points are in the set", Integer.bitCount(set), Halls.of(form).givens(0, false));
            Check.due(meet + "the set leaves one COMPLETION", 1, completionsOf(form, set));
            for (int place = 0; place < 9; place++) {
                if ((set >> place & 1) != 0) {
                    Check.holds(meet + "one point fewer leaves more", completionsOf(form, set & ~(1 << place)) > 1);
                }
            }
        }
    }

    private static int completionsOf(int[][] square, int set) {
        LoshuHall hall = Halls.of(square);
        for (int place = 0; place < 9; place++) {
            if ((set >> place & 1) == 0) {
                hall.put(0, place / 3, place % 3, LoshuHall.EMPTY);
            }
        }
        return hall.completions(0);
    }

    private static void slipsMend() {
        for (int[][] magic : new int[][][] {Halls.loShu(), Halls.four(), Naive.lux(), Naive.siege(9)}) {
            int side = magic.length;
            for (int place = 0; place < side * side; place++) {
                String meet = "Promises 3, 6 and 17, SIDE " + side + ", PLACE " + place + ": ";
                LoshuHall hall = Halls.of(Halls.with(magic, place, place % 2 == 0 ? 999 : LoshuHall.EMPTY));
                Check.holds(meet + "no magic one", (hall.laws(0) & MAGIC) != MAGIC);
                Check.due(meet + "one SLIP", 1, hall.slip(0, 0));
                Check.due(meet + "where it is", place, hall.slip(0, 1));
                hall.put(0, hall.slip(0, 1) / side, hall.slip(0, 1) % side, hall.slip(0, 2));
                Check.holds(meet + "mended", Halls.isLike(magic, hall, 0) && (hall.laws(0) & MAGIC) == MAGIC);
                Check.due(meet + "no SLIP behind that", 0, hall.slip(0, 0));
            }
        }
    }

    private static void orthogonalOnesStackNormal() {
        for (int side = 1; side <= 9; side++) {
            for (int f = 1; f <= side; f++) {
                String meet = "Promises 6, 18 and 19, SIDE " + side + ": ";
                LoshuHall hall = Halls.of(Halls.latin(side, 1), Halls.latin(side, f));
                boolean isOrthogonal = hall.orthogonal(0, 1);
                int stacked = hall.stack(0, 1);
                Check.holds(meet + "ORTHOGONAL ones are NORMAL when stacked, and no others",
                    isOrthogonal == ((hall.laws(stacked) & LoshuHall.NORMAL) != 0));
                Check.holds(meet + "what differs everywhere is ORTHOGONAL to itself", isOrthogonal == hall.orthogonal(stacked, stacked));
            }
        }
    }

    private static void productsKeepLaws() {
        String meet = "Promises 6 and 20: ";
        LoshuHall hall = new LoshuHall();
        int one = hall.make(LoshuHall.SIEGE, 1);
        int three = hall.make(LoshuHall.SIEGE, 3);
        int four = hall.make(LoshuHall.CROSS, 4);
        int nine = hall.product(three, three);
        int asFour = hall.product(one, four);
        int asThree = hall.product(three, one);
        Check.due(meet + "of magic ones a magic one", COMPLETE, hall.laws(nine) & COMPLETE);
        Check.holds(meet + "1 leaves the second one", Halls.isLike(Naive.cross(4), hall, asFour));
        Check.holds(meet + "1 leaves the first one", Halls.isLike(Naive.siege(3), hall, asThree));
        Check.due(meet + "classes", 4, hall.classes());
        Check.due(meet + "the first one's number leads", 9 * (8 - 1) + 2, hall.at(nine, 2, 2));
        hall.change(three, LoshuHall.TURN, 1);
        Check.due(meet + "what is multiplied stays when a first one turns", 9 * (8 - 1) + 2, hall.at(nine, 2, 2));
        Check.holds(meet + "the product of one that was turned is no KIN", !hall.same(nine, hall.product(three, asThree)));
    }

    private static void crossingsUnderChanges() {
        int[] factorials = {1, 1, 2, 6, 24, 120, 720};
        int[][] ways = {
            {LoshuHall.TURN, 1}, {LoshuHall.FLIP, 1}, {LoshuHall.DOWN, 0}, {LoshuHall.RIGHT, 0}, {LoshuHall.PAIRS, 0},
        };
        for (int side = 1; side <= 6; side++) {
            String meet = "Promises 8 and 21, SIDE " + side + ": ";
            int highest = side * side * side;
            int all = 0;
            for (int total = 0; total <= highest; total++) {
                LoshuHall hall = Halls.of(bent(side));
                int count = hall.crossings(0, total);
                all += count;
                for (int[] way : ways) {
                    hall.change(0, way[0], way[0] == LoshuHall.DOWN || way[0] == LoshuHall.RIGHT ? side - 1 : way[1]);
                    Check.due(meet + "as many behind the change " + way[0], count, hall.crossings(0, total));
                }
                hall.change(0, LoshuHall.COMPLEMENT, 300);
                Check.due(meet + "as many by the COMPLEMENTS", count, hall.crossings(0, 300 * side - total));
            }
            Check.due(meet + "all ways, of all totals", factorials[side], all);
        }
    }

    /** Numbers whose crossings have many totals. */
    private static int[][] bent(int side) {
        int[][] square = Halls.counted(side);
        for (int place = 0; place < side * side; place++) {
            square[place / side][place % side] = place * place % (side * side) + 1;
        }
        return square;
    }

    /** Each law that is told leaves at most as great a space; the lines of BROKEN are DIAGONALS too. */
    private static void dimensionsOfMoreLaws() {
        LoshuHall hall = new LoshuHall();
        for (int side = 1; side <= 6; side++) {
            String meet = "Promise 22, SIDE " + side + ": ";
            for (int law = LoshuHall.ROWS; law <= LoshuHall.OPPOSITE; law *= 2) {
                Check.holds(meet + "less by the law " + law, hall.dimension(side, law) <= side * side);
                Check.holds(meet + "all five are no more than " + law, hall.dimension(side, 62) <= hall.dimension(side, law));
            }
            Check.due(meet + "BROKEN has the DIAGONALS", hall.dimension(side, LoshuHall.BROKEN),
                hall.dimension(side, LoshuHall.BROKEN | LoshuHall.DIAGONALS));
        }
    }
}
