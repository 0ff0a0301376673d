/** Promise 1: a new object has no SQUARES. */
public final class Promise01NewObjectTest {
    private static final String CALL = "Promise 1, a new object: ";

    public static void main(String[] args) {
        noMethodFindsASquare();
        itsFirstSquareHasTheNumber0();
        itTellsWhatNeedsNoSquare();
        twoObjectsAreApart();
        Check.end("Promise01NewObjectTest");
    }

    private static void noMethodFindsASquare() {
        for (Calls.Known known : Calls.ALL) {
            if (known.asksSquares) {
                Edges.refuses(CALL + known.name + " finds no SQUARE", Check.IOOBE, LoshuHall::new, known.asked);
            }
        }
    }

    private static void itsFirstSquareHasTheNumber0() {
        Edges.adds(CALL + "the first of square", Halls.empty(3), LoshuHall::new, hall -> hall.square(3));
        Edges.adds(CALL + "the first of make", Naive.siege(3), LoshuHall::new, hall -> hall.make(LoshuHall.SIEGE, 3));
    }

    private static void itTellsWhatNeedsNoSquare() {
        Edges.answers(CALL + "classes", 0, LoshuHall::new, hall -> hall.classes());
        Edges.answers(CALL + "dimension", 9, LoshuHall::new, hall -> hall.dimension(3, 0));
    }

    private static void twoObjectsAreApart() {
        LoshuHall one = new LoshuHall();
        LoshuHall other = new LoshuHall();
        Check.due(CALL + "a SQUARE of one", 0, one.square(3));
        Check.due(CALL + "the other one has none", 0, Halls.countOf(other));
        Check.due(CALL + "a SQUARE of the other", 0, other.square(3));
        one.put(0, 1, 1, 5);
        Check.due(CALL + "the other one keeps its points", 0, other.at(0, 1, 1));
        LoshuHall late = new LoshuHall();
        Check.due(CALL + "one that is made later has none", 0, late.classes());
    }
}
