/** Promises 2 to 22: SQUARES whose numbers came by other calls, laid, made, changed, stacked and multiplied, asked at every method. */
public final class OriginsTest {
    private static final int[] TOTALS = {0, 1, 3, 15, 34, 65, 111, 2997, 8991};
    /** Some of them lead to an ESTIMATE above 0 of an EMPTY square of the SIDE 3 or 4. */
    private static final int[] SEEDS = {0, 1, 72, 376, 1358, 4711, 6196, 62612, 65535};

    public static void main(String[] args) {
        laid();
        made();
        changed("made, ", t -> t.make(LoshuHall.SIEGE, 1), 1);
        changed("made, ", t -> t.make(LoshuHall.SIEGE, 3), 3);
        changed("made, ", t -> t.make(LoshuHall.CROSS, 4), 4);
        changed("made, ", t -> t.make(LoshuHall.DIGITS, 5), 5);
        changed("made, ", t -> t.make(LoshuHall.LUX, 6), 6);
        changed("made, ", t -> t.make(LoshuHall.SIEGE, 9), 9);
        changed("laid, ", t -> t.lay(Halls.firstEmpty(Halls.four(), 3)), 4);
        changed("laid, ", t -> t.lay(Halls.with(Halls.loShu(), 4, 0)), 3);
        stacked();
        multiplied();
        mixed();
        Check.end("OriginsTest");
    }

    private static void laid() {
        for (int side = 1; side <= 9; side++) {
            int[][] square = Halls.counted(side);
            asked("laid, SIDE " + side, t -> t.lay(square));
        }
        asked("laid, then put EMPTY at points", t -> {
            t.lay(Halls.brokenFour());
            t.put(0, 0, 0, 0);
            t.put(0, 1, 1, 0);
            t.put(0, 3, 2, 0);
        });
        asked("laid, then put one upon the other", t -> {
            t.lay(Halls.filled(3, 999));
            for (int place = 0; place < 9; place++) {
                t.put(0, place / 3, place % 3, Halls.loShu()[place / 3][place % 3]);
            }
        });
    }

    private static void made() {
        for (int side = 1; side <= 9; side++) {
            for (int maker = LoshuHall.SIEGE; maker <= LoshuHall.LUX; maker++) {
                int m = maker;
                int s = side;
                asked("made by " + maker + ", SIDE " + side, t -> {
                    t.square(s);
                    t.make(m, s);
                });
                asked("made by " + maker + ", SIDE " + side + ", then put", t -> {
                    t.make(m, s);
                    t.put(0, s / 2, 0, 0);
                    t.put(0, 0, s - 1, 999);
                });
            }
        }
    }

    /** Ahead of the changed one stands the same unchanged. */
    private static void changed(String origin, Twin.Asked base, int side) {
        int[][] changes = {
            {LoshuHall.TURN, 1}, {LoshuHall.TURN, 2}, {LoshuHall.TURN, 3}, {LoshuHall.FLIP, 1},
            {LoshuHall.COMPLEMENT, side * side + 1}, {LoshuHall.COMPLEMENT, 999}, {LoshuHall.COMPLEMENT, side * side},
            {LoshuHall.DOWN, 1}, {LoshuHall.DOWN, side - 1}, {LoshuHall.RIGHT, 1}, {LoshuHall.RIGHT, side - 1},
            {LoshuHall.PAIRS, 0}, {LoshuHall.PAIRS, 1}, {LoshuHall.PAIRS, side / 2},
        };
        for (int[] change : changes) {
            asked(origin + "SIDE " + side + ", then changed by " + change[0] + " of " + change[1], t -> {
                base.of(t);
                base.of(t);
                t.change(1, change[0], change[1]);
            });
        }
        asked(origin + "SIDE " + side + ", then changed by each", t -> {
            base.of(t);
            for (int[] change : changes) {
                t.change(0, change[0], change[1]);
            }
        });
    }

    private static void stacked() {
        for (int side = 1; side <= 9; side++) {
            int[][] one = Halls.latin(side, 1);
            int[][] other = Halls.latin(side, 2);
            asked("stacked, SIDE " + side, t -> {
                t.lay(one);
                t.lay(other);
                t.stack(0, 1);
            });
            asked("stacked with itself, SIDE " + side, t -> {
                t.lay(other);
                t.stack(0, 0);
            });
        }
    }

    private static void multiplied() {
        for (int first = 1; first <= 9; first++) {
            for (int second = 1; first * second <= 9; second++) {
                int[][] one = Halls.counted(first);
                int[][] other = Halls.latin(second, 1);
                asked("multiplied, SIDES " + first + " and " + second, t -> {
                    t.lay(one);
                    t.lay(other);
                    t.product(0, 1);
                });
            }
        }
        asked("multiplied with itself", t -> {
            t.make(LoshuHall.SIEGE, 3);
            t.product(0, 0);
        });
    }

    private static void mixed() {
        asked("changed, stacked, multiplied, changed", t -> {
            t.lay(Halls.latin(3, 1));
            t.lay(Halls.latin(3, 1));
            t.change(1, LoshuHall.FLIP, 1);
            t.stack(0, 1);
            t.change(2, LoshuHall.RIGHT, 1);
            t.product(2, 2);
            t.change(3, LoshuHall.COMPLEMENT, 82);
        });
        asked("made, put EMPTY, refused, put again, multiplied", t -> {
            t.make(LoshuHall.SIEGE, 3);
            t.put(0, 1, 1, 0);
            t.product(0, 0);
            t.stack(0, 0);
            t.put(0, 1, 1, 5);
            t.product(0, 0);
        });
        asked("multiplied as high as can be, complemented, multiplied", t -> {
            t.lay(Halls.filled(2, 249));
            t.lay(Halls.filled(2, 3));
            t.product(0, 1);
            t.change(2, LoshuHall.COMPLEMENT, 1000);
            t.change(2, LoshuHall.COMPLEMENT, 997);
            t.product(2, 1);
            t.change(0, LoshuHall.COMPLEMENT, 252);
            t.product(0, 0);
        });
        asked("stacked of what was stacked", t -> {
            t.lay(Halls.filled(3, 1));
            t.stack(0, 0);
            t.put(0, 2, 2, 3);
            t.stack(0, 1);
            t.stack(1, 0);
            t.change(2, LoshuHall.TURN, 2);
            t.stack(2, 1);
            t.stack(3, 3);
        });
        asked("multiplied, then put EMPTY", t -> {
            t.make(LoshuHall.SIEGE, 1);
            t.lay(Halls.brokenFour());
            t.product(1, 0);
            t.put(2, 0, 0, 0);
            t.put(2, 3, 3, 0);
            t.put(2, 1, 2, 0);
            t.change(2, LoshuHall.DOWN, 2);
        });
    }

    /** Asks of the last square, then of what is made of it. */
    private static void asked(String origin, Twin.Asked laid) {
        Twin twin = new Twin(origin);
        laid.of(twin);
        int square = twin.count() - 1;
        if (square < 0) {
            return;
        }
        twin.readAll(square);
        askLines(twin, square);
        askForms(twin, square);
        askCompletions(twin, square);
        askPairs(twin, square);
        twin.stack(square, square);
        twin.product(square, square);
        twin.stack(square, 0);
        twin.product(0, square);
        twin.classes();
        twin.countAll();
        if (twin.count() > square + 1) {
            twin.readAll(twin.count() - 1);
        }
    }

    private static void askLines(Twin twin, int square) {
        twin.laws(square);
        for (int kind = 0; kind < 4; kind++) {
            for (int line = 0; line <= twin.sideOf(square); line++) {
                twin.sum(square, kind, line);
            }
        }
    }

    private static void askForms(Twin twin, int square) {
        int side = twin.sideOf(square);
        twin.kin(square);
        for (int place = 0; place < side * side; place++) {
            twin.least(square, place / side, place % side);
        }
        for (int other = 0; other < twin.count(); other++) {
            twin.same(square, other);
            twin.same(other, square);
        }
        twin.classes();
    }

    private static void askCompletions(Twin twin, int square) {
        int last = twin.sideOf(square) - 1;
        twin.completions(square);
        for (int which = 0; which < 3; which++) {
            twin.completion(square, which, 0, 0);
            twin.completion(square, which, last, last);
        }
        for (int seed : SEEDS) {
            twin.estimate(square, seed);
        }
        twin.givens(square, false);
        twin.givens(square, true);
    }

    private static void askPairs(Twin twin, int square) {
        for (int what = 0; what < 3; what++) {
            twin.slip(square, what);
        }
        for (int other = 0; other < twin.count(); other++) {
            twin.orthogonal(square, other);
            twin.orthogonal(other, square);
        }
        for (int total : TOTALS) {
            twin.crossings(square, total);
        }
    }
}
