/** Each method of the face, asked once on the same hall, and what is due there. */
final class Calls {
    /** EMPTY but for the middle: it has 8 COMPLETIONS. */
    private static final int[][] HOLED = Halls.square(3, 0, 0, 0, 0, 5, 0, 0, 0, 0);

    static final Known[] ALL = {
        new Known(2, "square", false, 4, hall -> hall.square(9)),
        new Known(3, "put", true, 8, hall -> hall.put(0, 0, 0, 999)),
        new Known(4, "at", true, 2, hall -> hall.at(0, 2, 2)),
        new Known(5, "make", false, 4, hall -> hall.make(LoshuHall.LUX, 6)),
        new Known(6, "laws", true, 111, hall -> hall.laws(0)),
        new Known(7, "sum", true, 15, hall -> hall.sum(0, 3, 2)),
        new Known(8, "change", true, 8, hall -> hall.change(0, LoshuHall.TURN, 1)),
        new Known(9, "same", true, 1, hall -> Check.bit(hall.same(0, 0))),
        new Known(10, "least", true, 2, hall -> hall.least(0, 0, 0)),
        new Known(11, "kin", true, 1, hall -> hall.kin(0)),
        new Known(12, "classes", false, 4, hall -> hall.classes()),
        new Known(13, "completions", true, 8, hall -> hall.completions(1)),
        new Known(14, "completion", true, 7, hall -> hall.completion(1, 7, 2, 1)),
        new Known(15, "estimate", true, 280, hall -> hall.estimate(1, 162)),
        new Known(16, "givens", true, 3, hall -> hall.givens(0, true)),
        new Known(17, "slip", true, 0, hall -> hall.slip(0, 0)),
        new Known(18, "orthogonal", true, 1, hall -> Check.bit(hall.orthogonal(0, 2))),
        new Known(19, "stack", true, 4, hall -> hall.stack(2, 2)),
        new Known(20, "product", true, 4, hall -> hall.product(0, 2)),
        new Known(21, "crossings", true, 1, hall -> hall.crossings(2, 3)),
        new Known(22, "dimension", false, 3, hall -> hall.dimension(3, 14)),
    };

    private Calls() { }

    static final class Known {
        final int promise;
        final String name;
        final boolean asksSquares;
        final long due;
        final Edges.OfHall asked;

        Known(int promise, String name, boolean asksSquares, long due, Edges.OfHall asked) {
            this.promise = promise;
            this.name = name;
            this.asksSquares = asksSquares;
            this.due = due;
            this.asked = asked;
        }
    }

    static LoshuHall laid() {
        return Halls.of(Halls.loShu(), HOLED, Halls.latin(3, 1), Halls.empty(9));
    }

    /** How many calls of its hall laid makes: four squares, and their points that are not EMPTY. */
    static int callsOfLaying() {
        return 4 + 9 + 1 + 9;
    }
}
