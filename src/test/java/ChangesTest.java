/** Promises 8 to 12: change, same, least, kin, classes. */
public final class ChangesTest {
    private static final int[] FAR = {Integer.MIN_VALUE, -1000000, -2, -1, 1999, 1000000, Integer.MAX_VALUE};

    public static void main(String[] args) {
        changesOfNineNumbers();
        changesOfDrawnSquares();
        changesOfOnePoint();
        complementHasItsBounds();
        changeRefuses();
        kinOfDrawnSquares();
        formsAreAsInTheDocument();
        sameRefuses();
        leastOfDrawnSquares();
        leastRefuses();
        kinCountsFormsAlike();
        classesAreCounted();
        Check.end("ChangesTest");
    }

    private static void changesTo(String what, int change, int by, int points, int... numbers) {
        LoshuHall hall = new LoshuHall();
        Naive.lay(hall, Naive.of(3, 1, 2, 3, 4, 5, 6, 7, 8, 0));
        Check.due(what, points, hall.change(0, change, by));
        for (int p = 0; p < 9; p++) {
            Check.due(what + ", place " + p, numbers[p], hall.at(0, p / 3, p % 3));
        }
    }

    private static void changesOfNineNumbers() {
        changesTo("TURN 0", LoshuHall.TURN, 0, 0, 1, 2, 3, 4, 5, 6, 7, 8, 0);
        changesTo("TURN 1", LoshuHall.TURN, 1, 8, 7, 4, 1, 8, 5, 2, 0, 6, 3);
        changesTo("TURN 2", LoshuHall.TURN, 2, 8, 0, 8, 7, 6, 5, 4, 3, 2, 1);
        changesTo("TURN 3", LoshuHall.TURN, 3, 8, 3, 6, 0, 2, 5, 8, 1, 4, 7);
        changesTo("FLIP 0", LoshuHall.FLIP, 0, 0, 1, 2, 3, 4, 5, 6, 7, 8, 0);
        changesTo("FLIP 1", LoshuHall.FLIP, 1, 6, 3, 2, 1, 6, 5, 4, 0, 8, 7);
        changesTo("COMPLEMENT 10", LoshuHall.COMPLEMENT, 10, 7, 9, 8, 7, 6, 5, 4, 3, 2, 0);
        changesTo("COMPLEMENT 9", LoshuHall.COMPLEMENT, 9, 8, 8, 7, 6, 5, 4, 3, 2, 1, 0);
        changesTo("COMPLEMENT 1000", LoshuHall.COMPLEMENT, 1000, 8, 999, 998, 997, 996, 995, 994, 993, 992, 0);
        changesTo("DOWN 0", LoshuHall.DOWN, 0, 0, 1, 2, 3, 4, 5, 6, 7, 8, 0);
        changesTo("DOWN 1", LoshuHall.DOWN, 1, 9, 7, 8, 0, 1, 2, 3, 4, 5, 6);
        changesTo("DOWN 2", LoshuHall.DOWN, 2, 9, 4, 5, 6, 7, 8, 0, 1, 2, 3);
        changesTo("RIGHT 0", LoshuHall.RIGHT, 0, 0, 1, 2, 3, 4, 5, 6, 7, 8, 0);
        changesTo("RIGHT 1", LoshuHall.RIGHT, 1, 9, 3, 1, 2, 6, 4, 5, 0, 7, 8);
        changesTo("RIGHT 2", LoshuHall.RIGHT, 2, 9, 2, 3, 1, 5, 6, 4, 8, 0, 7);
        changesTo("PAIRS 0", LoshuHall.PAIRS, 0, 8, 0, 8, 7, 6, 5, 4, 3, 2, 1);
        changesTo("PAIRS 1", LoshuHall.PAIRS, 1, 0, 1, 2, 3, 4, 5, 6, 7, 8, 0);
        changesTo("PAIRS 2", LoshuHall.PAIRS, 2, 8, 0, 8, 7, 6, 5, 4, 3, 2, 1);
    }

    private static void changesOfDrawnSquares() {
        Draw draw = new Draw(8);
        for (int side = 1; side <= 9; side++) {
            int[] most = {3, 1, 0, side - 1, side - 1, side - 1};
            for (int change = 0; change < 6; change++) {
                for (int by = 0; by <= most[change]; by++) {
                    int told = change == 2 ? 1000 : by;
                    int[][] a = draw.square(side, 1 + draw.below(999), 6);
                    int[][] due = Naive.changed(a, change, told);
                    LoshuHall hall = new LoshuHall();
                    Naive.lay(hall, a);
                    Naive.lay(hall, a);
                    String what = "change(0, " + change + ", " + told + "), side " + side;
                    Check.due(what, Naive.differing(a, due), hall.change(0, change, told));
                    Check.due(what + ": points that differ", 0, Naive.differing(due, Naive.read(hall, 0, side)));
                    Check.due(what + ": the other square", 0, Naive.differing(a, Naive.read(hall, 1, side)));
                }
            }
        }
    }

    private static void changesOfOnePoint() {
        LoshuHall hall = new LoshuHall();
        hall.square(1);
        hall.put(0, 0, 0, 4);
        Check.due("TURN 3", 0, hall.change(0, LoshuHall.TURN, 3));
        Check.due("FLIP 1", 0, hall.change(0, LoshuHall.FLIP, 1));
        Check.due("DOWN 0", 0, hall.change(0, LoshuHall.DOWN, 0));
        Check.due("RIGHT 0", 0, hall.change(0, LoshuHall.RIGHT, 0));
        Check.due("PAIRS 0", 0, hall.change(0, LoshuHall.PAIRS, 0));
        Check.fails("DOWN 1", Check.IAE, () -> hall.change(0, LoshuHall.DOWN, 1));
        Check.due("COMPLEMENT 8", 0, hall.change(0, LoshuHall.COMPLEMENT, 8));
        Check.due("COMPLEMENT 9", 1, hall.change(0, LoshuHall.COMPLEMENT, 9));
        Check.due("at", 5, hall.at(0, 0, 0));
    }

    private static void complementHasItsBounds() {
        LoshuHall hall = new LoshuHall();
        hall.square(2);
        Check.due("COMPLEMENT 0 of EMPTY points", 0, hall.change(0, LoshuHall.COMPLEMENT, 0));
        Check.due("COMPLEMENT 1998 of EMPTY points", 0, hall.change(0, LoshuHall.COMPLEMENT, 1998));
        hall.put(0, 0, 0, 999);
        hall.put(0, 1, 1, 999);
        Check.fails("COMPLEMENT 999", Check.ISE, () -> hall.change(0, LoshuHall.COMPLEMENT, 999));
        Check.fails("COMPLEMENT 0", Check.ISE, () -> hall.change(0, LoshuHall.COMPLEMENT, 0));
        Check.due("COMPLEMENT 1998", 0, hall.change(0, LoshuHall.COMPLEMENT, 1998));
        Check.due("COMPLEMENT 1000", 2, hall.change(0, LoshuHall.COMPLEMENT, 1000));
        Check.due("at", 1, hall.at(0, 0, 0));
        Check.fails("COMPLEMENT 1001 of 1", Check.ISE, () -> hall.change(0, LoshuHall.COMPLEMENT, 1001));
        Check.due("COMPLEMENT 1000", 2, hall.change(0, LoshuHall.COMPLEMENT, 1000));
        hall.put(0, 0, 0, 1);
        Check.fails("COMPLEMENT 999 with 1 and 999", Check.ISE, () -> hall.change(0, LoshuHall.COMPLEMENT, 999));
        Check.fails("COMPLEMENT 1001 with 1 and 999", Check.ISE, () -> hall.change(0, LoshuHall.COMPLEMENT, 1001));
        Check.due("nothing has changed", 1, hall.at(0, 0, 0));
        Check.due("nothing has changed", 999, hall.at(0, 1, 1));
    }

    private static void changeRefuses() {
        LoshuHall hall = new LoshuHall();
        hall.make(LoshuHall.CROSS, 4);
        for (int far : FAR) {
            Check.fails("change square " + far, Check.IOOBE, () -> hall.change(far, 0, 0));
            Check.fails("change change " + far, Check.IAE, () -> hall.change(0, far, 0));
            Check.fails("change square and change " + far, Check.IOOBE, () -> hall.change(far, far, far));
            for (int change = 0; change < 6; change++) {
                int c = change;
                Check.fails("change " + c + " by " + far, Check.IAE, () -> hall.change(0, c, far));
            }
        }
        int[] beyond = {4, 2, 1999, 4, 4, 4};
        for (int change = 0; change < 6; change++) {
            int c = change;
            Check.fails("change " + c + " by " + beyond[c], Check.IAE, () -> hall.change(0, c, beyond[c]));
        }
        Check.fails("change 6", Check.IAE, () -> hall.change(0, 6, 0));
        Check.fails("change of square 1", Check.IOOBE, () -> hall.change(1, 0, 0));
        Check.due("nothing has changed", 111, hall.laws(0));
        Check.due("nothing has changed", 16, hall.at(0, 0, 0));
    }

    private static void kinOfDrawnSquares() {
        Draw draw = new Draw(9);
        for (int run = 0; run < 1000; run++) {
            int[][] a = draw.square(1 + draw.below(3), 2, 4);
            int[][] b = draw.square(1 + draw.below(3), 2, 4);
            LoshuHall hall = new LoshuHall();
            Naive.lay(hall, a);
            Naive.lay(hall, b);
            long due = Naive.kin(a, b) ? 1 : 0;
            Check.due("same of drawn squares", due, hall.same(0, 1) ? 1 : 0);
            Check.due("same, the other way round", due, hall.same(1, 0) ? 1 : 0);
            Check.due("same with itself", 1, hall.same(1, 1) ? 1 : 0);
        }
    }

    private static void formsAreAsInTheDocument() {
        for (int side = 1; side <= 9; side++) {
            int[][] a = new Draw(side).square(side, 999, 7);
            for (int[][] form : Naive.forms(a)) {
                LoshuHall hall = new LoshuHall();
                Naive.lay(hall, a);
                int other = Naive.lay(hall, form);
                Check.holds("a form is kin, side " + side, hall.same(0, other));
                hall.put(other, 0, 0, hall.at(other, 0, 0) == 7 ? 8 : 7);
                Check.due("no form, side " + side, Naive.kin(a, Naive.read(hall, other, side)) ? 1 : 0, hall.same(0, other) ? 1 : 0);
            }
        }
    }

    private static void sameRefuses() {
        LoshuHall hall = new LoshuHall();
        hall.square(3);
        hall.square(4);
        Check.holds("unlike sides", !hall.same(0, 1));
        for (int far : FAR) {
            Check.fails("same first " + far, Check.IOOBE, () -> hall.same(far, 0) ? 1 : 0);
            Check.fails("same second " + far, Check.IOOBE, () -> hall.same(0, far) ? 1 : 0);
        }
        Check.fails("same 2", Check.IOOBE, () -> hall.same(2, 0) ? 1 : 0);
    }

    private static void leastOfDrawnSquares() {
        Draw draw = new Draw(10);
        for (int run = 0; run < 900; run++) {
            int side = 1 + run % 9;
            int[][] a = draw.square(side, 1 + draw.below(run % 2 == 0 ? 2 : 999), 3);
            int[][] least = Naive.least(a);
            LoshuHall hall = new LoshuHall();
            Naive.lay(hall, a);
            for (int p = 0; p < side * side; p++) {
                Check.due("least, side " + side, least[p / side][p % side], hall.least(0, p / side, p % side));
            }
            Check.due("the square stays", 0, Naive.differing(a, Naive.read(hall, 0, side)));
        }
    }

    private static void leastRefuses() {
        LoshuHall hall = new LoshuHall();
        hall.square(3);
        for (int far : FAR) {
            Check.fails("least square " + far, Check.IOOBE, () -> hall.least(far, 0, 0));
            Check.fails("least row " + far, Check.IOOBE, () -> hall.least(0, far, 0));
            Check.fails("least column " + far, Check.IOOBE, () -> hall.least(0, 0, far));
        }
        Check.fails("least row 3", Check.IOOBE, () -> hall.least(0, 3, 0));
        Check.fails("least column 3", Check.IOOBE, () -> hall.least(0, 0, 3));
    }

    private static void kinCountsFormsAlike() {
        Draw draw = new Draw(11);
        for (int run = 0; run < 1000; run++) {
            int[][] a = draw.square(1 + draw.below(4), 1 + draw.below(2), 3);
            int due = 0;
            for (int[][] form : Naive.forms(a)) {
                due += Naive.compare(form, a) == 0 ? 1 : 0;
            }
            LoshuHall hall = new LoshuHall();
            Naive.lay(hall, a);
            Check.due("kin of a drawn square", due, hall.kin(0));
        }
        LoshuHall hall = new LoshuHall();
        hall.make(LoshuHall.SIEGE, 9);
        Check.due("kin of a made square", 1, hall.kin(0));
        hall.square(9);
        Check.due("kin of an EMPTY square", 8, hall.kin(1));
        for (int far : FAR) {
            Check.fails("kin " + far, Check.IOOBE, () -> hall.kin(far));
        }
        Check.fails("kin 2", Check.IOOBE, () -> hall.kin(2));
    }

    private static void classesAreCounted() {
        LoshuHall hall = new LoshuHall();
        int[][] a = Naive.of(3, 1, 2, 3, 4, 5, 6, 7, 8, 9);
        Check.due("no classes", 0, hall.classes());
        int count = 0;
        for (int[][] form : Naive.forms(a)) {
            Naive.lay(hall, form);
            count++;
            Check.due("classes of " + count + " forms", 1, hall.classes());
        }
        hall.put(3, 1, 1, 100);
        Check.due("two classes", 2, hall.classes());
        hall.put(5, 1, 1, 100);
        Check.due("still two", 2, hall.classes());
        hall.put(0, 0, 0, 0);
        Check.due("three", 3, hall.classes());
        LoshuHall sides = new LoshuHall();
        for (int side = 1; side <= 8; side++) {
            sides.square(side);
            Check.due("classes by sides", side, sides.classes());
        }
        Draw draw = new Draw(12);
        for (int run = 0; run < 300; run++) {
            classesOfDrawnSquares(draw);
        }
    }

    private static void classesOfDrawnSquares(Draw draw) {
        LoshuHall hall = new LoshuHall();
        java.util.List<int[][]> all = new java.util.ArrayList<>();
        int due = 0;
        for (int i = 0; i < 8; i++) {
            int[][] a = draw.square(2, 1, 2);
            boolean isNew = true;
            for (int[][] other : all) {
                isNew &= !Naive.kin(a, other);
            }
            due += isNew ? 1 : 0;
            all.add(a);
            Naive.lay(hall, a);
            Check.due("classes of drawn squares", due, hall.classes());
        }
    }
}
