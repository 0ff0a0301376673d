import java.util.ArrayList;
import java.util.List;

/** Promise 12: classes. */
public final class Promise12ClassesTest {
    private static final String CALL = "Promise 12, classes: ";

    public static void main(String[] args) {
        noSquares();
        formsAreOneClass();
        eachSideIsAClass();
        eightClasses();
        classesComeAndGo();
        emptySquaresCount();
        drawnSquares();
        Check.end("Promise12ClassesTest");
    }

    private static void classesAre(String what, int due, int[][]... squares) {
        Edges.answers(CALL + what, due, Halls.laid(squares), LoshuHall::classes);
    }

    private static void noSquares() {
        classesAre("no SQUARES", 0);
        LoshuHall hall = new LoshuHall();
        Check.fails(CALL + "a refused SQUARE is none", Check.IAE, () -> hall.square(0));
        Check.due(CALL + "no SQUARES behind a refused one", 0, hall.classes());
    }

    private static void formsAreOneClass() {
        for (int count = 1; count <= 8; count++) {
            classesAre(count + " FORMS of one", 1, Halls.forms(count));
        }
    }

    private static void eachSideIsAClass() {
        int[][][] empty = new int[8][][];
        for (int count = 1; count <= 8; count++) {
            empty[count - 1] = Halls.empty(count == 8 ? 9 : count);
            classesAre(count + " EMPTY ones of unlike SIDES", count, java.util.Arrays.copyOf(empty, count));
        }
    }

    private static void eightClasses() {
        int[][][] squares = new int[8][][];
        for (int count = 1; count <= 8; count++) {
            squares[count - 1] = Halls.with(Halls.counted(3), count, 999);
            classesAre(count + " of which no two are KIN", count, java.util.Arrays.copyOf(squares, count));
        }
        squares[7] = Naive.flipped(squares[0]);
        classesAre("7 of 8, the last one KIN to the first", 7, squares);
        squares[6] = Naive.turned(squares[5], 3);
        classesAre("6 of 8, two and two KIN", 6, squares);
        classesAre("6 of 7", 6, java.util.Arrays.copyOf(squares, 7));
    }

    private static void classesComeAndGo() {
        LoshuHall hall = Halls.of(Halls.forms(8));
        hall.put(3, 1, 1, 100);
        Check.due(CALL + "two behind a put", 2, hall.classes());
        hall.put(5, 1, 1, 100);
        Check.due(CALL + "still two", 2, hall.classes());
        hall.put(0, 0, 0, 0);
        Check.due(CALL + "three behind an EMPTY point", 3, hall.classes());
        hall.change(7, LoshuHall.TURN, 1);
        Check.due(CALL + "three behind a TURN", 3, hall.classes());
        hall.change(7, LoshuHall.DOWN, 1);
        Check.due(CALL + "four behind a shift", 4, hall.classes());
    }

    private static void emptySquaresCount() {
        classesAre("two EMPTY ones of one SIDE", 1, Halls.empty(4), Halls.empty(4));
        classesAre("an EMPTY one and one with one number", 2, Halls.empty(4), Halls.with(Halls.empty(4), 5, 1));
    }

    private static void drawnSquares() {
        Draw draw = new Draw(12);
        for (int run = 0; run < 300; run++) {
            LoshuHall hall = new LoshuHall();
            List<int[][]> all = new ArrayList<>();
            int due = 0;
            for (int i = 0; i < 8; i++) {
                int[][] a = draw.square(2, 1, 2);
                boolean isNew = true;
                for (int[][] other : all) {
                    isNew &= !Naive.kin(a, other);
                }
                due += isNew ? 1 : 0;
                all.add(a);
                Halls.lay(hall, a);
                Check.due(CALL + "drawn SQUARES", due, hall.classes());
            }
        }
    }
}
