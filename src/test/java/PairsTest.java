/** Promises 17 to 22: slip, orthogonal, stack, product, crossings, dimension. */
public final class PairsTest {
    private static final int[] FAR = {Integer.MIN_VALUE, -1000000, -2, -1, 8, 1000000, Integer.MAX_VALUE};

    public static void main(String[] args) {
        slipsOfOnePoint();
        slipsOfMendedSquares();
        slipsOfDrawnSquares();
        slipsAtTheEdges();
        slipRefuses();
        orthogonalSquares();
        orthogonalRefuses();
        stackedSquares();
        stackRefuses();
        products();
        productRefuses();
        crossingsAreCounted();
        crossingsRefuse();
        dimensionsOfAllLaws();
        dimensionRefuses();
        Check.end("PairsTest");
    }

    private static void slipsAre(String what, LoshuHall hall, int square, int count, int place, int number) {
        Check.due(what + ", how many", count, hall.slip(square, 0));
        Check.due(what + ", the place", place, hall.slip(square, 1));
        Check.due(what + ", the number", number, hall.slip(square, 2));
    }

    private static void slipsOfOnePoint() {
        LoshuHall hall = new LoshuHall();
        hall.square(1);
        slipsAre("one EMPTY point", hall, 0, 999, 0, 1);
        hall.put(0, 0, 0, 1);
        slipsAre("one 1", hall, 0, 998, 0, 2);
        hall.put(0, 0, 0, 2);
        slipsAre("one 2", hall, 0, 998, 0, 1);
        hall.put(0, 0, 0, 999);
        slipsAre("one 999", hall, 0, 998, 0, 1);
    }

    private static void slipsOfMendedSquares() {
        for (int side = 3; side <= 9; side += 2) {
            for (int p = 0; p < side * side; p++) {
                LoshuHall hall = new LoshuHall();
                hall.make(LoshuHall.SIEGE, side);
                slipsAre("a magic square", hall, 0, 0, LoshuHall.NONE, LoshuHall.NONE);
                int was = hall.put(0, p / side, p % side, p % 2 == 0 ? 0 : 500);
                slipsAre("a slip at " + p, hall, 0, 1, p, was);
                Check.due("the square stays", p % 2 == 0 ? 0 : 500, hall.at(0, p / side, p % side));
                hall.put(0, (p + 1) % (side * side) / side, (p + 1) % side, 700);
                slipsAre("two faults", hall, 0, 0, LoshuHall.NONE, LoshuHall.NONE);
            }
        }
    }

    private static void slipsOfDrawnSquares() {
        Draw draw = new Draw(17);
        for (int run = 0; run < 200; run++) {
            int[][] a = draw.square(1 + draw.below(3), 2, 4);
            int[] due = Naive.slips(a);
            LoshuHall hall = new LoshuHall();
            Naive.lay(hall, a);
            slipsAre("drawn square", hall, 0, due[0], due[1], due[2]);
            Check.due("the square stays", 0, Naive.differing(a, Naive.read(hall, 0, a.length)));
        }
    }

    private static void slipsAtTheEdges() {
        LoshuHall hall = new LoshuHall();
        Naive.lay(hall, Naive.of(2, 999, 999, 999, 998));
        slipsAre("999 is needed", hall, 0, 1, 3, 999);
        hall.put(0, 1, 1, 0);
        slipsAre("999 in place of EMPTY", hall, 0, 1, 3, 999);
        Naive.lay(hall, Naive.of(2, 1, 1, 7, 1));
        slipsAre("1 is needed", hall, 1, 1, 2, 1);
        Naive.lay(hall, Naive.of(2, 0, 0, 7, 0));
        slipsAre("EMPTY is no number of a slip", hall, 2, 0, LoshuHall.NONE, LoshuHall.NONE);
        hall.square(9);
        slipsAre("all EMPTY", hall, 3, 0, LoshuHall.NONE, LoshuHall.NONE);
        // 1000 would be needed in the middle
        Naive.lay(hall, Naive.of(3, 999, 1, 500, 1, 0, 999, 500, 499, 1));
        slipsAre("above 999", hall, 4, 0, LoshuHall.NONE, LoshuHall.NONE);
    }

    private static void slipRefuses() {
        LoshuHall hall = new LoshuHall();
        hall.square(3);
        for (int far : FAR) {
            Check.fails("slip square " + far, Check.IOOBE, () -> hall.slip(far, 3));
            Check.fails("slip what " + far, Check.IAE, () -> hall.slip(0, far));
        }
        Check.fails("slip what 3", Check.IAE, () -> hall.slip(0, 3));
        Check.fails("slip square 1", Check.IOOBE, () -> hall.slip(1, 0));
    }

    /** The number r and f times c, modulo the side, and 1. */
    private static int[][] latin(int side, int f) {
        int[][] a = new int[side][side];
        for (int p = 0; p < side * side; p++) {
            a[p / side][p % side] = (p / side + f * (p % side)) % side + 1;
        }
        return a;
    }

    private static void orthogonalSquares() {
        LoshuHall hall = new LoshuHall();
        Naive.lay(hall, latin(9, 1));
        Naive.lay(hall, latin(9, 2));
        Naive.lay(hall, latin(9, 4));
        Check.holds("orthogonal of the side 9", hall.orthogonal(0, 1));
        Check.holds("not orthogonal of the side 9", !hall.orthogonal(0, 2));
        Check.holds("not orthogonal to itself", !hall.orthogonal(1, 1));
        int made = hall.make(LoshuHall.SIEGE, 9);
        Check.holds("a NORMAL one is orthogonal to itself", hall.orthogonal(made, made));
        Check.holds("and to others", hall.orthogonal(0, made) && hall.orthogonal(made, 0));
        hall.put(made, 0, 0, 0);
        Check.holds("one EMPTY point", hall.orthogonal(made, made));
        hall.put(made, 8, 8, 0);
        Check.holds("two EMPTY points", !hall.orthogonal(made, made));
        Check.due("EMPTY counts as 0", hall.at(0, 0, 0) == hall.at(0, 8, 8) ? 0 : 1, hall.orthogonal(0, made) ? 1 : 0);
        int point = hall.square(1);
        Check.holds("one EMPTY point alone", hall.orthogonal(point, point));
        Draw draw = new Draw(18);
        for (int run = 0; run < 2000; run++) {
            int side = 1 + draw.below(3);
            int[][] a = draw.square(side, 2 + draw.below(8), 10);
            int[][] b = draw.square(side, 2 + draw.below(8), 10);
            LoshuHall drawn = new LoshuHall();
            Naive.lay(drawn, a);
            Naive.lay(drawn, b);
            Check.due("orthogonal of drawn squares", Naive.orthogonal(a, b) ? 1 : 0, drawn.orthogonal(0, 1) ? 1 : 0);
        }
    }

    private static void orthogonalRefuses() {
        LoshuHall hall = new LoshuHall();
        hall.square(3);
        hall.square(4);
        for (int far : FAR) {
            Check.fails("orthogonal first " + far, Check.IOOBE, () -> hall.orthogonal(far, 1) ? 1 : 0);
            Check.fails("orthogonal second " + far, Check.IOOBE, () -> hall.orthogonal(0, far) ? 1 : 0);
        }
        Check.fails("orthogonal of unlike sides", Check.ISE, () -> hall.orthogonal(0, 1) ? 1 : 0);
        Check.fails("orthogonal of unlike sides", Check.ISE, () -> hall.orthogonal(1, 0) ? 1 : 0);
    }

    private static void stackedSquares() {
        for (int side = 1; side <= 9; side++) {
            int[][] a = latin(side, 1);
            int[][] b = latin(side, 2);
            LoshuHall hall = new LoshuHall();
            Naive.lay(hall, a);
            Naive.lay(hall, b);
            Check.due("stack", 2, hall.stack(0, 1));
            Check.due("stack with itself", 3, hall.stack(1, 1));
            for (int p = 0; p < side * side; p++) {
                int r = p / side;
                int c = p % side;
                Check.due("stacked", side * (a[r][c] - 1) + b[r][c], hall.at(2, r, c));
                Check.due("stacked with itself", side * (b[r][c] - 1) + b[r][c], hall.at(3, r, c));
            }
            Check.due("stacked of orthogonal ones is NORMAL", hall.orthogonal(0, 1) ? 64 : 0, hall.laws(2) & 64);
            Check.due("the first stays", 0, Naive.differing(a, Naive.read(hall, 0, side)));
        }
    }

    private static void stackRefuses() {
        LoshuHall hall = new LoshuHall();
        Naive.lay(hall, latin(3, 1));
        Naive.lay(hall, latin(4, 1));
        Naive.lay(hall, latin(3, 2));
        for (int far : FAR) {
            Check.fails("stack first " + far, Check.IOOBE, () -> hall.stack(far, 0));
            Check.fails("stack second " + far, Check.IOOBE, () -> hall.stack(0, far));
        }
        Check.fails("stack of unlike sides", Check.ISE, () -> hall.stack(0, 1));
        Check.fails("stack of unlike sides", Check.ISE, () -> hall.stack(1, 0));
        for (int number : new int[] {0, 4, 999}) {
            int old = hall.put(2, 2, 2, number);
            Check.fails("stack, the second with " + number, Check.ISE, () -> hall.stack(0, 2));
            Check.fails("stack, the first with " + number, Check.ISE, () -> hall.stack(2, 0));
            hall.put(2, 2, 2, old);
        }
        for (int i = 3; i < 8; i++) {
            Check.due("stack", i, hall.stack(0, 2));
        }
        Check.fails("a ninth stacked", Check.ISE, () -> hall.stack(0, 2));
        Check.due("the eighth stays", 1, hall.at(7, 0, 0));
    }

    private static void isProduct(int[][] a, int[][] b) {
        int n = a.length;
        int m = b.length;
        LoshuHall hall = new LoshuHall();
        Naive.lay(hall, a);
        Naive.lay(hall, b);
        Check.due("product", 2, hall.product(0, 1));
        for (int r = 0; r < n * m; r++) {
            for (int c = 0; c < n * m; c++) {
                Check.due("product of " + n + " and " + m, m * m * (a[r / m][c / m] - 1) + b[r % m][c % m], hall.at(2, r, c));
            }
        }
        Check.fails("the product's side", Check.IOOBE, () -> hall.at(2, n * m, 0));
        Check.due("the first stays", 0, Naive.differing(a, Naive.read(hall, 0, n)));
        Check.due("the second stays", 0, Naive.differing(b, Naive.read(hall, 1, m)));
    }

    private static void products() {
        Draw draw = new Draw(20);
        for (int n = 1; n <= 9; n++) {
            for (int m = 1; n * m <= 9; m++) {
                isProduct(draw.square(n, m > 3 ? 5 : 80, 99999), draw.square(m, 81, 99999));
            }
        }
        LoshuHall hall = new LoshuHall();
        hall.make(LoshuHall.SIEGE, 3);
        Check.due("product with itself", 1, hall.product(0, 0));
        Check.due("laws of the product", 111, hall.laws(1));
        Check.due("the first point", 9 * 7 + 8, hall.at(1, 0, 0));
        int one = hall.make(LoshuHall.SIEGE, 1);
        Check.due("product with one 1", 3, hall.product(1, one));
        Check.holds("changes nothing", hall.same(1, 3) && hall.at(3, 0, 0) == 71);
        Check.due("product of one 1", 4, hall.product(one, 1));
        Check.due("changes nothing", 71, hall.at(4, 0, 0));
    }

    private static void productRefuses() {
        LoshuHall hall = new LoshuHall();
        Naive.lay(hall, Naive.of(2, 250, 1, 1, 1));
        Naive.lay(hall, Naive.of(2, 1, 2, 3, 3));
        hall.make(LoshuHall.SIEGE, 5);
        for (int far : FAR) {
            Check.fails("product first " + far, Check.IOOBE, () -> hall.product(far, 0));
            Check.fails("product second " + far, Check.IOOBE, () -> hall.product(0, far));
        }
        Check.fails("product of the side 10", Check.ISE, () -> hall.product(0, 2));
        Check.fails("product of the side 25", Check.ISE, () -> hall.product(2, 2));
        Check.due("999 is the highest", 3, hall.product(0, 1));
        Check.due("999", 999, hall.at(3, 1, 0));
        hall.put(1, 1, 1, 4);
        Check.fails("1000 is above", Check.ISE, () -> hall.product(0, 1));
        hall.put(1, 1, 1, 0);
        Check.fails("the second with an EMPTY point", Check.ISE, () -> hall.product(0, 1));
        Check.fails("the first with an EMPTY point", Check.ISE, () -> hall.product(1, 0));
        hall.put(0, 0, 0, 1);
        hall.put(1, 1, 1, 999);
        Check.due("1 and 999", 4, hall.product(0, 1));
        Check.due("999", 999, hall.at(4, 3, 3));
        Check.fails("999 and 1", Check.ISE, () -> hall.product(1, 0));
        for (int i = 5; i < 8; i++) {
            Check.due("product", i, hall.product(0, 0));
        }
        Check.fails("a ninth product", Check.ISE, () -> hall.product(0, 0));
    }

    private static void crossingsAreCounted() {
        Draw draw = new Draw(21);
        for (int run = 0; run < 300; run++) {
            int side = 1 + draw.below(6);
            int[][] a = draw.square(side, run % 4 == 0 ? 999 : 4, 6);
            LoshuHall hall = new LoshuHall();
            Naive.lay(hall, a);
            for (int i = 0; i < 12; i++) {
                int total = run % 4 == 0 ? draw.below(8992) : 2 * side - 4 + i < 0 ? 0 : 2 * side - 4 + i;
                Check.due("crossings of " + total, Naive.crossings(a, total), hall.crossings(0, total));
            }
        }
        LoshuHall hall = new LoshuHall();
        hall.square(6);
        Check.due("crossings of EMPTY points", 720, hall.crossings(0, 0));
        Check.due("crossings of EMPTY points, 1", 0, hall.crossings(0, 1));
        hall.make(LoshuHall.LUX, 6);
        Check.due("crossings of LUX", Naive.crossings(Naive.read(hall, 1, 6), 111), hall.crossings(1, 111));
        for (int p = 0; p < 36; p++) {
            hall.put(0, p / 6, p % 6, 999);
        }
        Check.due("crossings of 999", 720, hall.crossings(0, 5994));
        Check.due("crossings of 999, another total", 0, hall.crossings(0, 8991));
    }

    private static void crossingsRefuse() {
        LoshuHall hall = new LoshuHall();
        hall.square(7);
        hall.square(6);
        for (int far : FAR) {
            Check.fails("crossings square " + far, Check.IOOBE, () -> hall.crossings(far, -1));
        }
        for (int total : new int[] {-1, 8992, Integer.MIN_VALUE, Integer.MAX_VALUE}) {
            Check.fails("crossings total " + total, Check.IAE, () -> hall.crossings(1, total));
            Check.fails("crossings of the side 7, total " + total, Check.IAE, () -> hall.crossings(0, total));
        }
        Check.fails("crossings of the side 7", Check.ISE, () -> hall.crossings(0, 0));
        Check.fails("crossings of the side 7", Check.ISE, () -> hall.crossings(0, 8991));
    }

    private static void dimensionsOfAllLaws() {
        LoshuHall hall = new LoshuHall();
        for (int side = 1; side <= 6; side++) {
            for (int laws = 0; laws < 64; laws += 2) {
                Check.due("dimension(" + side + ", " + laws + ")", Naive.dimension(side, laws), hall.dimension(side, laws));
            }
        }
        Check.due("magic squares of the side 6", 24, hall.dimension(6, 14));
        Check.due("once more", 3, hall.dimension(3, 14));
    }

    private static void dimensionRefuses() {
        LoshuHall hall = new LoshuHall();
        for (int far : new int[] {Integer.MIN_VALUE, -1, 0, 7, 9, Integer.MAX_VALUE}) {
            Check.fails("dimension side " + far, Check.IAE, () -> hall.dimension(far, 14));
        }
        for (int laws : new int[] {Integer.MIN_VALUE, -2, -1, 1, 3, 15, 63, 64, 66, 128, 254, Integer.MAX_VALUE}) {
            Check.fails("dimension laws " + laws, Check.IAE, () -> hall.dimension(3, laws));
        }
        Check.fails("dimension side 0, laws 1", Check.IAE, () -> hall.dimension(0, 1));
    }
}
