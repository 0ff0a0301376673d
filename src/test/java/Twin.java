import java.util.List;

/** A hall and its Model, asked side by side: the same answer, or the same exception, is due of both, call by call. */
final class Twin {
    private final LoshuHall hall = new LoshuHall();
    private final Model model = new Model();
    private final String run;
    private int calls = 0;

    /** What is told of a fault begins with the run's name. */
    Twin(String run) {
        this.run = run;
    }

    interface Asked {
        void of(Twin twin);
    }

    private void hold(Check.Call asked, Check.Call due, String method, Object... values) {
        calls++;
        String got = Check.outcome(asked);
        String want = Check.outcome(due);
        boolean isAsDue = got.equals(want);
        String words = isAsDue ? method : method + List.of(values);
        Check.holds(isAsDue ? run : run + ", call " + calls + ", " + words + " gave " + got + ", due is " + want, isAsDue);
        if (calls > Halls.MOST_CALLS) {
            Check.holds(run + ": the test asks more than 512 calls", false);
        }
    }

    // ---- what is there

    int calls() {
        return calls;
    }

    int count() {
        return model.count();
    }

    int sideOf(int square) {
        return model.sideOf(square);
    }

    /** The points of a square, and those just beyond its last row and column. */
    void readAll(int square) {
        int side = sideOf(square);
        for (int place = 0; place < side * side; place++) {
            at(square, place / side, place % side);
        }
        at(square, side, 0);
        at(square, 0, side);
    }

    /** Squares are numbered in their order: the last one tells how many there are. */
    void countAll() {
        at(count() - 1, 0, 0);
        at(count(), 0, 0);
    }

    /** Lays a square point by point; those that are EMPTY are as they are in a new one. */
    void lay(int[][] square) {
        int laid = count();
        square(square.length);
        for (int place = 0; place < square.length * square.length; place++) {
            int row = place / square.length;
            int column = place % square.length;
            if (square[row][column] != LoshuHall.EMPTY) {
                put(laid, row, column, square[row][column]);
            }
        }
    }

    // ---- squares

    void square(int side) {
        hold(() -> hall.square(side), () -> model.square(side), "square", side);
    }

    void put(int square, int row, int column, int number) {
        hold(() -> hall.put(square, row, column, number),
            () -> model.put(square, row, column, number), "put", square, row, column, number);
    }

    void at(int square, int row, int column) {
        hold(() -> hall.at(square, row, column), () -> model.at(square, row, column), "at", square, row, column);
    }

    void make(int maker, int side) {
        hold(() -> hall.make(maker, side), () -> model.make(maker, side), "make", maker, side);
    }

    void laws(int square) {
        hold(() -> hall.laws(square), () -> model.laws(square), "laws", square);
    }

    void sum(int square, int kind, int line) {
        hold(() -> hall.sum(square, kind, line), () -> model.sum(square, kind, line), "sum", square, kind, line);
    }

    // ---- changes, kin

    void change(int square, int change, int by) {
        hold(() -> hall.change(square, change, by), () -> model.change(square, change, by), "change", square, change, by);
    }

    void same(int square, int other) {
        hold(() -> Check.bit(hall.same(square, other)), () -> Check.bit(model.same(square, other)), "same", square, other);
    }

    void least(int square, int row, int column) {
        hold(() -> hall.least(square, row, column), () -> model.least(square, row, column), "least", square, row, column);
    }

    void kin(int square) {
        hold(() -> hall.kin(square), () -> model.kin(square), "kin", square);
    }

    void classes() {
        hold(hall::classes, model::classes, "classes");
    }

    // ---- completions

    void completions(int square) {
        hold(() -> hall.completions(square), () -> model.completions(square), "completions", square);
    }

    void completion(int square, int which, int row, int column) {
        hold(() -> hall.completion(square, which, row, column),
            () -> model.completion(square, which, row, column), "completion", square, which, row, column);
    }

    void estimate(int square, int seed) {
        hold(() -> hall.estimate(square, seed), () -> model.estimate(square, seed), "estimate", square, seed);
    }

    void givens(int square, boolean isSet) {
        hold(() -> hall.givens(square, isSet), () -> model.givens(square, isSet), "givens", square, isSet);
    }

    // ---- slips, pairs

    void slip(int square, int what) {
        hold(() -> hall.slip(square, what), () -> model.slip(square, what), "slip", square, what);
    }

    void orthogonal(int square, int other) {
        hold(() -> Check.bit(hall.orthogonal(square, other)),
            () -> Check.bit(model.orthogonal(square, other)), "orthogonal", square, other);
    }

    void stack(int square, int other) {
        hold(() -> hall.stack(square, other), () -> model.stack(square, other), "stack", square, other);
    }

    void product(int square, int other) {
        hold(() -> hall.product(square, other), () -> model.product(square, other), "product", square, other);
    }

    void crossings(int square, int total) {
        hold(() -> hall.crossings(square, total), () -> model.crossings(square, total), "crossings", square, total);
    }

    void dimension(int side, int laws) {
        hold(() -> hall.dimension(side, laws), () -> model.dimension(side, laws), "dimension", side, laws);
    }
}
