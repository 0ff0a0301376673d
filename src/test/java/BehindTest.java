/** Promises 2 to 22: every call behind every other one, those that answer and those that throw, and what the two leave. */
public final class BehindTest {
    private static final int FIRST_ADDED = 6;

    /** Of each method some calls that answer, and for each sentence of its throws clause one that throws. */
    private static final Twin.Asked[] CALLS = {
        t -> t.square(1), t -> t.square(3), t -> t.square(9), t -> t.square(0), t -> t.square(10),
        t -> t.put(0, 1, 1, 0), t -> t.put(1, 0, 0, 16), t -> t.put(1, 3, 3, 0), t -> t.put(2, 2, 2, 999), t -> t.put(4, 6, 6, 1),
        t -> t.put(FIRST_ADDED, 0, 0, 5), t -> t.put(-1, 0, 0, 1), t -> t.put(0, 3, 0, 1), t -> t.put(0, 0, -1, 1),
        t -> t.put(0, 0, 0, 1000), t -> t.put(0, 0, 0, -1),
        t -> t.at(0, 2, 2), t -> t.at(FIRST_ADDED, 0, 0), t -> t.at(8, 0, 0), t -> t.at(0, 0, 3), t -> t.at(0, -1, 0),
        t -> t.make(LoshuHall.SIEGE, 9), t -> t.make(LoshuHall.CROSS, 8), t -> t.make(LoshuHall.DIGITS, 5),
        t -> t.make(LoshuHall.LUX, 6), t -> t.make(4, 3), t -> t.make(LoshuHall.SIEGE, 0), t -> t.make(LoshuHall.CROSS, 5),
        t -> t.laws(0), t -> t.laws(1), t -> t.laws(FIRST_ADDED), t -> t.laws(-1),
        t -> t.sum(0, 0, 2), t -> t.sum(1, 2, 3), t -> t.sum(4, 3, 6), t -> t.sum(8, 0, 0), t -> t.sum(0, 4, 0), t -> t.sum(0, 0, 3),
        t -> t.change(0, LoshuHall.TURN, 1), t -> t.change(0, LoshuHall.FLIP, 1), t -> t.change(0, LoshuHall.COMPLEMENT, 10),
        t -> t.change(1, LoshuHall.DOWN, 3), t -> t.change(1, LoshuHall.RIGHT, 2), t -> t.change(4, LoshuHall.PAIRS, 2),
        t -> t.change(2, LoshuHall.TURN, 3), t -> t.change(5, LoshuHall.COMPLEMENT, 1998), t -> t.change(8, 0, 0),
        t -> t.change(0, 6, 0), t -> t.change(0, LoshuHall.TURN, 4), t -> t.change(0, LoshuHall.DOWN, 3),
        t -> t.change(0, LoshuHall.COMPLEMENT, 9), t -> t.change(5, LoshuHall.COMPLEMENT, 999),
        t -> t.same(0, 2), t -> t.same(2, 3), t -> t.same(0, 0), t -> t.same(0, 8), t -> t.same(8, 0),
        t -> t.least(0, 0, 0), t -> t.least(1, 3, 3), t -> t.least(4, 6, 6), t -> t.least(0, 3, 0), t -> t.least(-1, 0, 0),
        t -> t.kin(2), t -> t.kin(5), t -> t.kin(FIRST_ADDED), t -> t.kin(8),
        Twin::classes,
        t -> t.completions(1), t -> t.completions(0), t -> t.completions(FIRST_ADDED), t -> t.completions(4), t -> t.completions(8),
        t -> t.completion(1, 0, 0, 0), t -> t.completion(0, 0, 1, 1), t -> t.completion(1, 1000, 0, 0),
        t -> t.completion(1, -1, 0, 0), t -> t.completion(4, 0, 0, 0), t -> t.completion(0, 0, 3, 0), t -> t.completion(8, 0, 0, 0),
        t -> t.estimate(1, 0), t -> t.estimate(1, 65535), t -> t.estimate(0, 1), t -> t.estimate(FIRST_ADDED, 72),
        t -> t.estimate(1, 65536), t -> t.estimate(4, 0), t -> t.estimate(8, 0),
        t -> t.givens(0, true), t -> t.givens(0, false), t -> t.givens(2, true), t -> t.givens(4, false), t -> t.givens(8, true),
        t -> t.slip(0, 0), t -> t.slip(1, 0), t -> t.slip(2, 1), t -> t.slip(5, 2), t -> t.slip(0, 3), t -> t.slip(8, 0),
        t -> t.orthogonal(2, 3), t -> t.orthogonal(0, 0), t -> t.orthogonal(2, 2), t -> t.orthogonal(0, 1), t -> t.orthogonal(0, 8),
        t -> t.stack(2, 3), t -> t.stack(3, 2), t -> t.stack(0, 2), t -> t.stack(2, 1), t -> t.stack(2, 8),
        t -> t.product(0, 2), t -> t.product(2, 0), t -> t.product(5, 5), t -> t.product(0, 1), t -> t.product(8, 0),
        t -> t.crossings(0, 15), t -> t.crossings(1, 34), t -> t.crossings(2, 6), t -> t.crossings(4, 100), t -> t.crossings(0, 8992),
        t -> t.crossings(8, 0),
        t -> t.dimension(4, 14), t -> t.dimension(6, 62), t -> t.dimension(3, 0), t -> t.dimension(7, 0), t -> t.dimension(3, 64),
        t -> t.dimension(1, 1),
    };

    public static void main(String[] args) {
        for (int first = 0; first < CALLS.length; first++) {
            for (int second = 0; second < CALLS.length; second++) {
                oneBehindTheOther("of the calls " + first + " and " + second, first, second, false);
                oneBehindTheOther("with 7, of the calls " + first + " and " + second, first, second, true);
            }
        }
        Check.end("BehindTest");
    }

    /** There is room for two squares, or for one alone, so that the second one that is added is refused. */
    private static void oneBehindTheOther(String run, int first, int second, boolean isSeventh) {
        Twin twin = laid(run);
        if (isSeventh) {
            twin.square(1);
        }
        CALLS[first].of(twin);
        CALLS[second].of(twin);
        for (int square = 0; square < twin.count(); square++) {
            twin.readAll(square);
        }
        twin.countAll();
    }

    private static Twin laid(String run) {
        Twin twin = new Twin(run);
        twin.make(LoshuHall.SIEGE, 3);
        twin.lay(Halls.firstEmpty(Halls.four(), 4));
        twin.lay(Halls.latin(3, 1));
        twin.lay(Halls.latin(3, 2));
        twin.make(LoshuHall.SIEGE, 7);
        twin.lay(Halls.filled(2, 999));
        return twin;
    }
}
