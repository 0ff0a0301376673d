/** At most eight squares of numbers, told apart by the laws that their lines keep. */
public final class LoshuHall {
    public static final int NONE = -1;
    public static final int EMPTY = 0;
    public static final int SIEGE = 0, CROSS = 1, DIGITS = 2, LUX = 3;
    public static final int TURN = 0, FLIP = 1, COMPLEMENT = 2, DOWN = 3, RIGHT = 4, PAIRS = 5;
    public static final int FULL = 1, ROWS = 2, COLUMNS = 4, DIAGONALS = 8, BROKEN = 16, OPPOSITE = 32, NORMAL = 64, POWERS = 128;

    private static final int MOST_SQUARES = 8;
    private static final int MOST_SIDE = 9;
    private static final int MOST_NUMBER = 999;
    private static final int MOST_COMPLEMENT = 1998;
    private static final int MOST_COMPLETED_SIDE = 4;
    private static final int MOST_COMPLETED_EMPTY = 9;
    private static final int MOST_SEED = 65535;
    private static final int MOST_GIVENS_SIDE = 3;
    private static final int MOST_TOTAL = 8991;
    private static final int MOST_CROSSED_SIDE = 6;
    private static final int MOST_SPACE_SIDE = 6;

    private static final int IN_ROWS = 0, IN_COLUMNS = 1, DOWN_RIGHT = 2, DOWN_LEFT = 3;

    private final Figure[] figures;
    private final Figure spare;
    private final Search search;
    private final Givens givensFinder;
    private final Space space;
    private int figureCount;

    /** All rows are made here and used again by every call, so that many calls need no more room than one. */
    public LoshuHall() {
        figures = new Figure[MOST_SQUARES];
        for (int i = 0; i < figures.length; i++) {
            figures[i] = new Figure();
        }
        spare = new Figure();
        search = new Search();
        givensFinder = new Givens();
        space = new Space();
        figureCount = 0;
    }

    // ---- squares

    public int square(int side) throws IllegalArgumentException, IllegalStateException {
        requireRange(side, 1, MOST_SIDE);
        requireRoom();
        return addFigure(side);
    }

    public int put(int square, int row, int column, int number) throws IndexOutOfBoundsException, IllegalArgumentException {
        Figure figure = figureOf(square);
        requirePoint(figure, row, column);
        requireRange(number, EMPTY, MOST_NUMBER);
        return figure.write(figure.placeOf(row, column), number);
    }

    public int at(int square, int row, int column) throws IndexOutOfBoundsException {
        Figure figure = figureOf(square);
        requirePoint(figure, row, column);
        return figure.read(figure.placeOf(row, column));
    }

    public int make(int maker, int side) throws IllegalArgumentException, IllegalStateException {
        requireRange(maker, SIEGE, LUX);
        requireRange(side, 1, MOST_SIDE);
        requireState(Makers.holdsFor(maker, side));
        requireRoom();
        int square = addFigure(side);
        Makers.lay(maker, figureOf(square), spare);
        return square;
    }

    public int laws(int square) throws IndexOutOfBoundsException {
        return Laws.heldBy(figureOf(square));
    }

    public int sum(int square, int kind, int line) throws IndexOutOfBoundsException, IllegalArgumentException {
        Figure figure = figureOf(square);
        requireRange(kind, IN_ROWS, DOWN_LEFT);
        requireRange(line, 0, figure.side() - 1);
        return figure.lineSum(kind, line);
    }

    // ---- changes, kin

    public int change(int square, int change, int by) throws IndexOutOfBoundsException, IllegalArgumentException, IllegalStateException {
        Figure figure = figureOf(square);
        requireRange(change, TURN, PAIRS);
        requireRange(by, 0, Changes.mostBy(change, figure.side()));
        if (change != COMPLEMENT) {
            return Changes.move(figure, spare, change, by);
        }
        requireState(Changes.canComplement(figure, by));
        return Changes.complement(figure, by);
    }

    public boolean same(int square, int other) throws IndexOutOfBoundsException {
        Figure first = figureOf(square);
        return Forms.areKin(first, figureOf(other));
    }

    public int least(int square, int row, int column) throws IndexOutOfBoundsException {
        Figure figure = figureOf(square);
        requirePoint(figure, row, column);
        return Forms.numberIn(figure, Forms.leastOf(figure), figure.placeOf(row, column));
    }

    public int kin(int square) throws IndexOutOfBoundsException {
        return Forms.countLike(figureOf(square));
    }

    public int classes() {
        int classCount = 0;
        for (int square = 0; square < figureCount; square++) {
            if (!hasEarlierKin(square)) {
                classCount++;
            }
        }
        return classCount;
    }

    // ---- completions

    public int completions(int square) throws IndexOutOfBoundsException, IllegalStateException {
        Figure figure = figureOf(square);
        requireState(canBeCompleted(figure));
        search.load(figure);
        return search.countAll();
    }

    public int completion(int square, int which, int row, int column) throws IndexOutOfBoundsException, IllegalArgumentException, IllegalStateException {
        Figure figure = figureOf(square);
        requirePoint(figure, row, column);
        if (which < 0) {
            throw new IllegalArgumentException("below 0");
        }
        requireState(canBeCompleted(figure));
        search.load(figure);
        return search.numberIn(which, figure.placeOf(row, column));
    }

    public long estimate(int square, int seed) throws IndexOutOfBoundsException, IllegalArgumentException, IllegalStateException {
        Figure figure = figureOf(square);
        requireRange(seed, 0, MOST_SEED);
        requireState(figure.side() <= MOST_COMPLETED_SIDE);
        search.load(figure);
        return search.estimateFrom(seed);
    }

    public int givens(int square, boolean isSet) throws IndexOutOfBoundsException, IllegalStateException {
        Figure figure = figureOf(square);
        requireState(figure.side() <= MOST_GIVENS_SIDE && Laws.isNormal(figure) && Laws.isMagic(figure));
        int fewest = givensFinder.fewestOf(figure);
        return isSet ? fewest : Integer.bitCount(fewest);
    }

    // ---- slips, pairs

    public int slip(int square, int what) throws IndexOutOfBoundsException, IllegalArgumentException {
        Figure figure = figureOf(square);
        requireRange(what, Slips.COUNT, Slips.FIRST_NUMBER);
        return Slips.tell(figure, what);
    }

    public boolean orthogonal(int square, int other) throws IndexOutOfBoundsException, IllegalStateException {
        Figure first = figureOf(square);
        Figure second = figureOf(other);
        requireState(first.side() == second.side());
        return Pairs.areOrthogonal(first, second);
    }

    public int stack(int square, int other) throws IndexOutOfBoundsException, IllegalStateException {
        Figure first = figureOf(square);
        Figure second = figureOf(other);
        requireState(Pairs.canStack(first, second));
        requireRoom();
        int stacked = addFigure(first.side());
        Pairs.layStack(figureOf(stacked), first, second);
        return stacked;
    }

    public int product(int square, int other) throws IndexOutOfBoundsException, IllegalStateException {
        Figure first = figureOf(square);
        Figure second = figureOf(other);
        requireState(Pairs.canMultiply(first, second));
        requireRoom();
        int multiplied = addFigure(first.side() * second.side());
        Pairs.layProduct(figureOf(multiplied), first, second);
        return multiplied;
    }

    public int crossings(int square, int total) throws IndexOutOfBoundsException, IllegalArgumentException, IllegalStateException {
        Figure figure = figureOf(square);
        requireRange(total, 0, MOST_TOTAL);
        requireState(figure.side() <= MOST_CROSSED_SIDE);
        return countCrossings(figure, 0, 0, total);
    }

    public int dimension(int side, int laws) throws IllegalArgumentException {
        requireRange(side, 1, MOST_SPACE_SIDE);
        if ((laws & ~Space.TOLD_LAWS) != 0) {
            throw new IllegalArgumentException("a law that is not told here");
        }
        return space.dimensionOf(side, laws);
    }

    // ---- what the calls require

    private static void requireRange(int value, int lowest, int highest) {
        if (value < lowest || value > highest) {
            throw new IllegalArgumentException("out of its range");
        }
    }

    private static void requirePoint(Figure figure, int row, int column) {
        if (row < 0 || row >= figure.side() || column < 0 || column >= figure.side()) {
            throw new IndexOutOfBoundsException("no such row or column");
        }
    }

    private static void requireState(boolean isAllowed) {
        if (!isAllowed) {
            throw new IllegalStateException("not for such squares");
        }
    }

    private void requireRoom() {
        if (figureCount < 0 || figureCount >= figures.length || figures[figureCount] == null) {
            throw new IllegalStateException("there are all the squares that can be");
        }
    }

    private static boolean canBeCompleted(Figure figure) {
        return figure.side() <= MOST_COMPLETED_SIDE && figure.countOf(EMPTY) <= MOST_COMPLETED_EMPTY;
    }

    private Figure figureOf(int square) {
        if (square < 0 || square >= figureCount || square >= figures.length || figures[square] == null) {
            throw new IndexOutOfBoundsException("no such square");
        }
        return figures[square];
    }

    private int addFigure(int side) {
        int square = figureCount;
        if (square >= 0 && square < figures.length && figures[square] != null) {
            figures[square].begin(side);
            figureCount++;
        }
        return square;
    }

    private boolean hasEarlierKin(int square) {
        for (int earlier = 0; earlier < square; earlier++) {
            if (Forms.areKin(figureOf(earlier), figureOf(square))) {
                return true;
            }
        }
        return false;
    }

    /** One level a row; taken has a bit for each column that a higher row has chosen. */
    private static int countCrossings(Figure figure, int row, int taken, int rest) {
        if (row >= figure.side() || row >= MOST_CROSSED_SIDE) {
            return rest == 0 ? 1 : 0;
        }
        int ways = 0;
        for (int column = 0; column < figure.side(); column++) {
            int bit = 1 << column;
            int number = figure.read(figure.placeOf(row, column));
            if ((taken & bit) == 0 && number <= rest) {
                ways += countCrossings(figure, row + 1, taken | bit, rest - number);
            }
        }
        return ways;
    }

    /** Where the points of a side are: a PLACE is one number for a row and a column. */
    private static final class Places {
        static int of(int side, int row, int column) {
            return side * row + column;
        }

        static int rowOf(int side, int place) {
            return side < 1 ? 0 : place / side;
        }

        static int columnOf(int side, int place) {
            return side < 1 ? 0 : place % side;
        }

        static int wrap(int value, int side) {
            return side < 1 ? 0 : Math.floorMod(value, side);
        }

        static int onLine(int side, int kind, int line, int step) {
            if (side < 1) {
                return 0;
            }
            switch (kind) {
                case IN_ROWS:
                    return side * line + step;
                case IN_COLUMNS:
                    return side * step + line;
                case DOWN_RIGHT:
                    return side * step + (line + step) % side;
                default:
                    return side * step + (line - step + side) % side;
            }
        }

        /** The changes are told backwards: which place has the number that comes to this one. */
        static int aheadOfTurn(int side, int turns, int place) {
            int row = rowOf(side, place);
            int column = columnOf(side, place);
            int last = side - 1;
            switch (turns) {
                case 1:
                    return of(side, last - column, row);
                case 2:
                    return of(side, last - row, last - column);
                case 3:
                    return of(side, column, last - row);
                default:
                    return place;
            }
        }

        static int aheadOfFlip(int side, int flips, int place) {
            return flips == 0 ? place : of(side, rowOf(side, place), side - 1 - columnOf(side, place));
        }

        static int aheadOfShift(int side, int down, int right, int place) {
            return of(side, wrap(rowOf(side, place) - down, side), wrap(columnOf(side, place) - right, side));
        }

        static int aheadOfPairs(int side, int by, int place) {
            return of(side, swapped(side, by, rowOf(side, place)), swapped(side, by, columnOf(side, place)));
        }

        private static int swapped(int side, int by, int line) {
            int last = side - 1;
            return line == by || line == last - by ? last - line : line;
        }
    }

    /** One square: its side and, by places, its numbers. */
    private static final class Figure {
        private final int[] numbers;
        private int side;

        Figure() {
            numbers = new int[MOST_SIDE * MOST_SIDE];
            side = 1;
        }

        void begin(int newSide) {
            side = newSide;
            for (int place = 0; place < numbers.length; place++) {
                numbers[place] = EMPTY;
            }
        }

        void copyFrom(Figure other) {
            begin(other.side());
            for (int place = 0; place < size(); place++) {
                write(place, other.read(place));
            }
        }

        int side() {
            return side;
        }

        int size() {
            return side * side;
        }

        int placeOf(int row, int column) {
            return Places.of(side, row, column);
        }

        int read(int place) {
            return place >= 0 && place < numbers.length ? numbers[place] : EMPTY;
        }

        /** Returns what was there. */
        int write(int place, int number) {
            if (place < 0 || place >= numbers.length) {
                return EMPTY;
            }
            int old = numbers[place];
            numbers[place] = number;
            return old;
        }

        int countOf(int number) {
            int count = 0;
            for (int place = 0; place < size(); place++) {
                if (read(place) == number) {
                    count++;
                }
            }
            return count;
        }

        int highest() {
            int highest = EMPTY;
            for (int place = 0; place < size(); place++) {
                highest = Math.max(highest, read(place));
            }
            return highest;
        }

        int lineSum(int kind, int line) {
            int total = 0;
            for (int step = 0; step < side; step++) {
                total += read(Places.onLine(side, kind, line, step));
            }
            return total;
        }

        int linePower(int kind, int line) {
            int total = 0;
            for (int step = 0; step < side; step++) {
                int number = read(Places.onLine(side, kind, line, step));
                total += number * number;
            }
            return total;
        }
    }

    /** The four ways in which a square is made. */
    private static final class Makers {
        static boolean holdsFor(int maker, int side) {
            switch (maker) {
                case SIEGE:
                    return side % 2 == 1;
                case CROSS:
                    return side == 4 || side == 8;
                case DIGITS:
                    return side % 2 == 1 && side % 3 != 0;
                case LUX:
                    return side == 6;
                default:
                    return false;
            }
        }

        /** The figure is EMPTY ahead of this; the spare one is written over. */
        static void lay(int maker, Figure figure, Figure spare) {
            switch (maker) {
                case SIEGE:
                    laySiege(figure);
                    break;
                case CROSS:
                    layCross(figure);
                    break;
                case DIGITS:
                    layDigits(figure);
                    break;
                default:
                    layLux(figure, spare);
                    break;
            }
        }

        private static void laySiege(Figure figure) {
            int side = figure.side();
            int row = 0;
            int column = side / 2;
            for (int number = 1; number <= figure.size(); number++) {
                figure.write(figure.placeOf(row, column), number);
                int higher = Places.wrap(row - 1, side);
                int farther = Places.wrap(column + 1, side);
                if (figure.read(figure.placeOf(higher, farther)) == EMPTY) {
                    row = higher;
                    column = farther;
                } else {
                    row = Places.wrap(row + 1, side);
                }
            }
        }

        private static void layCross(Figure figure) {
            int side = figure.side();
            for (int place = 0; place < figure.size(); place++) {
                int row = Places.rowOf(side, place) % 4;
                int column = Places.columnOf(side, place) % 4;
                boolean isOnCross = row == column || row + column == 3;
                figure.write(place, isOnCross ? figure.size() - place : place + 1);
            }
        }

        private static void layDigits(Figure figure) {
            int side = figure.side();
            for (int row = 0; row < side; row++) {
                for (int column = 0; column < side; column++) {
                    int high = Places.wrap(row + 2 * column, side);
                    int low = Places.wrap(2 * row + column, side);
                    figure.write(figure.placeOf(row, column), side * high + low + 1);
                }
            }
        }

        private static void layLux(Figure figure, Figure spare) {
            spare.begin(3);
            laySiege(spare);
            for (int row = 0; row < 3; row++) {
                for (int column = 0; column < 3; column++) {
                    int m = 4 * (spare.read(spare.placeOf(row, column)) - 1);
                    boolean isUnlike = row == 1 && column == 1 || row == 2 && column != 1;
                    int corner = figure.placeOf(2 * row, 2 * column);
                    int below = figure.placeOf(2 * row + 1, 2 * column);
                    figure.write(corner, isUnlike ? m + 1 : m + 4);
                    figure.write(corner + 1, isUnlike ? m + 4 : m + 1);
                    figure.write(below, m + 2);
                    figure.write(below + 1, m + 3);
                }
            }
        }
    }

    /** Which LAWS hold. */
    private static final class Laws {
        private static final int LAW_COUNT = 8;

        static int heldBy(Figure figure) {
            int held = 0;
            for (int bit = 0; bit < LAW_COUNT; bit++) {
                if (holds(figure, 1 << bit)) {
                    held |= 1 << bit;
                }
            }
            return held;
        }

        /** ROWS, COLUMNS and DIAGONALS hold. */
        static boolean isMagic(Figure figure) {
            int due = figure.lineSum(IN_ROWS, 0);
            return areLinesAt(figure, IN_ROWS, due) && areLinesAt(figure, IN_COLUMNS, due) && areDiagonalsAt(figure, due);
        }

        static boolean isNormal(Figure figure) {
            for (int number = 1; number <= figure.size(); number++) {
                if (figure.countOf(number) != 1) {
                    return false;
                }
            }
            return true;
        }

        private static boolean holds(Figure figure, int law) {
            int due = figure.lineSum(IN_ROWS, 0);
            switch (law) {
                case FULL:
                    return figure.countOf(EMPTY) == 0;
                case ROWS:
                    return areLinesAt(figure, IN_ROWS, due);
                case COLUMNS:
                    return areLinesAt(figure, IN_COLUMNS, due);
                case DIAGONALS:
                    return areDiagonalsAt(figure, due);
                case BROKEN:
                    return areLinesAt(figure, DOWN_RIGHT, due) && areLinesAt(figure, DOWN_LEFT, due);
                case OPPOSITE:
                    return areOppositesAlike(figure);
                case NORMAL:
                    return isNormal(figure);
                case POWERS:
                    return arePowersAlike(figure);
                default:
                    return false;
            }
        }

        private static boolean areDiagonalsAt(Figure figure, int due) {
            return figure.lineSum(DOWN_RIGHT, 0) == due && figure.lineSum(DOWN_LEFT, figure.side() - 1) == due;
        }

        private static boolean areLinesAt(Figure figure, int kind, int due) {
            for (int line = 0; line < figure.side(); line++) {
                if (figure.lineSum(kind, line) != due) {
                    return false;
                }
            }
            return true;
        }

        private static boolean areOppositesAlike(Figure figure) {
            int last = figure.size() - 1;
            int due = figure.read(0) + figure.read(last);
            for (int place = 0; place <= last; place++) {
                if (figure.read(place) + figure.read(last - place) != due) {
                    return false;
                }
            }
            return true;
        }

        private static boolean arePowersAlike(Figure figure) {
            int due = figure.linePower(IN_ROWS, 0);
            for (int line = 0; line < figure.side(); line++) {
                if (figure.linePower(IN_ROWS, line) != due || figure.linePower(IN_COLUMNS, line) != due) {
                    return false;
                }
            }
            return true;
        }
    }

    /** The changes of a square. */
    private static final class Changes {
        static int mostBy(int change, int side) {
            switch (change) {
                case TURN:
                    return 3;
                case FLIP:
                    return 1;
                case COMPLEMENT:
                    return MOST_COMPLEMENT;
                default:
                    return side - 1;
            }
        }

        /** Returns at how many points there is another number then. */
        static int move(Figure figure, Figure spare, int change, int by) {
            spare.copyFrom(figure);
            int changed = 0;
            for (int place = 0; place < figure.size(); place++) {
                int number = spare.read(aheadOf(figure.side(), change, by, place));
                if (figure.write(place, number) != number) {
                    changed++;
                }
            }
            return changed;
        }

        private static int aheadOf(int side, int change, int by, int place) {
            switch (change) {
                case TURN:
                    return Places.aheadOfTurn(side, by, place);
                case FLIP:
                    return Places.aheadOfFlip(side, by, place);
                case DOWN:
                    return Places.aheadOfShift(side, by, 0, place);
                case RIGHT:
                    return Places.aheadOfShift(side, 0, by, place);
                case PAIRS:
                    return Places.aheadOfPairs(side, by, place);
                default:
                    return place;
            }
        }

        static boolean canComplement(Figure figure, int by) {
            for (int place = 0; place < figure.size(); place++) {
                int number = figure.read(place);
                if (number != EMPTY && (by - number < 1 || by - number > MOST_NUMBER)) {
                    return false;
                }
            }
            return true;
        }

        static int complement(Figure figure, int by) {
            int changed = 0;
            for (int place = 0; place < figure.size(); place++) {
                int number = figure.read(place);
                if (number != EMPTY && figure.write(place, by - number) != by - number) {
                    changed++;
                }
            }
            return changed;
        }
    }

    /** The eight FORMS: form 4 times f, and t, is the figure behind a FLIP of f and then a TURN of t. */
    private static final class Forms {
        static final int COUNT = 8;

        static int numberIn(Figure figure, int form, int place) {
            int unturned = Places.aheadOfTurn(figure.side(), form % 4, place);
            return figure.read(Places.aheadOfFlip(figure.side(), form / 4, unturned));
        }

        static boolean areKin(Figure first, Figure second) {
            for (int form = 0; form < COUNT; form++) {
                if (isForm(first, form, second)) {
                    return true;
                }
            }
            return false;
        }

        static int countLike(Figure figure) {
            int like = 0;
            for (int form = 0; form < COUNT; form++) {
                if (isForm(figure, form, figure)) {
                    like++;
                }
            }
            return like;
        }

        private static boolean isForm(Figure figure, int form, Figure other) {
            if (figure.side() != other.side()) {
                return false;
            }
            for (int place = 0; place < figure.size(); place++) {
                if (numberIn(figure, form, place) != other.read(place)) {
                    return false;
                }
            }
            return true;
        }

        static int leastOf(Figure figure) {
            int least = 0;
            for (int form = 1; form < COUNT; form++) {
                if (isLower(figure, form, least)) {
                    least = form;
                }
            }
            return least;
        }

        private static boolean isLower(Figure figure, int form, int other) {
            for (int place = 0; place < figure.size(); place++) {
                int number = numberIn(figure, form, place);
                int otherNumber = numberIn(figure, other, place);
                if (number != otherNumber) {
                    return number < otherNumber;
                }
            }
            return false;
        }
    }

    /** Fills a small figure; it keeps what each line sums to and lacks, so that no step adds all lines up again. */
    private static final class Search {
        private static final int MOST_PLACES = MOST_COMPLETED_SIDE * MOST_COMPLETED_SIDE;
        private static final int MOST_LINES = 2 * MOST_COMPLETED_SIDE + 2;
        private static final int LINES_AT_A_POINT = 4;

        private final int[] numbers;
        private final boolean[] isUsed;
        private final int[] sums;
        private final int[] lacks;
        private final int[] linesAtPlaces;
        private final int[] empties;
        private int emptyCount;
        private int side;
        private int due;
        private boolean isClashing;
        private int wanted;
        private int wantedPlace;
        private int found;
        private int answer;

        Search() {
            numbers = new int[MOST_PLACES];
            isUsed = new boolean[MOST_PLACES + 1];
            sums = new int[MOST_LINES];
            lacks = new int[MOST_LINES];
            linesAtPlaces = new int[MOST_PLACES * LINES_AT_A_POINT];
            empties = new int[MOST_PLACES];
            side = 1;
        }

        /** The figure's side is at most MOST_COMPLETED_SIDE. */
        void load(Figure figure) {
            begin(figure.side());
            for (int place = 0; place < figure.size(); place++) {
                int number = figure.read(place);
                if (number == EMPTY) {
                    addEmpty(place);
                } else if (isFree(number)) {
                    lay(place, number);
                } else {
                    isClashing = true;
                }
            }
        }

        private void begin(int newSide) {
            side = newSide;
            due = side * (side * side + 1) / 2;
            isClashing = false;
            emptyCount = 0;
            for (int number = 0; number < isUsed.length; number++) {
                isUsed[number] = false;
            }
            for (int line = 0; line < sums.length && line < lacks.length; line++) {
                sums[line] = 0;
                lacks[line] = side;
            }
            for (int i = 0; i < linesAtPlaces.length; i++) {
                linesAtPlaces[i] = lineThrough(i / LINES_AT_A_POINT, i % LINES_AT_A_POINT);
            }
        }

        /** Lines are numbered: the rows, the columns, the two DIAGONALS; NONE if the point is not on that DIAGONAL. */
        private int lineThrough(int place, int way) {
            int row = Places.rowOf(side, place);
            int column = Places.columnOf(side, place);
            switch (way) {
                case 0:
                    return row;
                case 1:
                    return side + column;
                case 2:
                    return row == column ? 2 * side : NONE;
                default:
                    return row + column == side - 1 ? 2 * side + 1 : NONE;
            }
        }

        private void addEmpty(int place) {
            if (emptyCount >= 0 && emptyCount < empties.length) {
                empties[emptyCount] = place;
                emptyCount++;
            }
        }

        int countAll() {
            seek(NONE, 0);
            return found;
        }

        /** NONE if there are not so many. */
        int numberIn(int which, int place) {
            seek(which, place);
            return answer;
        }

        private void seek(int which, int place) {
            wanted = which;
            wantedPlace = place;
            found = 0;
            answer = NONE;
            if (fits()) {
                fillFrom(this, 0);
            }
        }

        /** One level an EMPTY point. */
        private static void fillFrom(Search search, int depth) {
            if (depth >= search.emptyCount || depth >= search.empties.length || depth < 0) {
                search.meet();
                return;
            }
            int place = search.empties[depth];
            int highest = search.highestAt(place);
            for (int number = search.lowestAt(place); number <= highest && search.answer == NONE; number++) {
                if (search.isFree(number)) {
                    search.lay(place, number);
                    fillFrom(search, depth + 1);
                    search.lift(place, number);
                }
            }
        }

        private void meet() {
            if (found == wanted && wantedPlace >= 0 && wantedPlace < numbers.length) {
                answer = numbers[wantedPlace];
            }
            found++;
        }

        long estimateFrom(int seed) {
            if (!fits()) {
                return 0;
            }
            long product = 1;
            int state = seed;
            for (int i = 0; i < emptyCount && i < empties.length && product > 0; i++) {
                int choices = countChoices(empties[i]);
                product *= choices;
                state = (25173 * state + 13849) % 65536;
                if (choices > 0) {
                    lay(empties[i], choiceAt(empties[i], state % choices));
                }
            }
            return product;
        }

        private int countChoices(int place) {
            int choices = 0;
            int highest = highestAt(place);
            for (int number = lowestAt(place); number <= highest; number++) {
                if (isFree(number)) {
                    choices++;
                }
            }
            return choices;
        }

        private int choiceAt(int place, int which) {
            int passed = 0;
            int highest = highestAt(place);
            for (int number = lowestAt(place); number <= highest; number++) {
                if (isFree(number)) {
                    if (passed == which) {
                        return number;
                    }
                    passed++;
                }
            }
            return EMPTY;
        }

        private boolean fits() {
            if (isClashing) {
                return false;
            }
            for (int line = 0; line < 2 * side + 2 && isLine(line); line++) {
                if (lacks[line] == 0 ? sums[line] != due : sums[line] >= due) {
                    return false;
                }
            }
            return true;
        }

        /** The last number of a line is told by the others; so lowestAt and highestAt bound just what FITS. */
        private int lowestAt(int place) {
            int lowest = 1;
            for (int way = 0; way < LINES_AT_A_POINT; way++) {
                int line = lineAt(place, way);
                if (isLine(line) && lacks[line] == 1) {
                    lowest = Math.max(lowest, due - sums[line]);
                }
            }
            return lowest;
        }

        private int highestAt(int place) {
            int highest = side * side;
            for (int way = 0; way < LINES_AT_A_POINT; way++) {
                int line = lineAt(place, way);
                if (isLine(line)) {
                    int rest = due - sums[line];
                    highest = Math.min(highest, lacks[line] == 1 ? rest : rest - 1);
                }
            }
            return highest;
        }

        private void lay(int place, int number) {
            if (place >= 0 && place < numbers.length && isFree(number)) {
                numbers[place] = number;
                isUsed[number] = true;
                tally(place, number, -1);
            }
        }

        private void lift(int place, int number) {
            if (number >= 0 && number < isUsed.length) {
                isUsed[number] = false;
                tally(place, -number, 1);
            }
        }

        private void tally(int place, int number, int lacking) {
            for (int way = 0; way < LINES_AT_A_POINT; way++) {
                int line = lineAt(place, way);
                if (isLine(line)) {
                    sums[line] += number;
                    lacks[line] += lacking;
                }
            }
        }

        private int lineAt(int place, int way) {
            int index = place * LINES_AT_A_POINT + way;
            return index >= 0 && index < linesAtPlaces.length ? linesAtPlaces[index] : NONE;
        }

        private boolean isLine(int line) {
            return line >= 0 && line < sums.length && line < lacks.length;
        }

        private boolean isFree(int number) {
            return number >= 1 && number <= side * side && number < isUsed.length && !isUsed[number];
        }
    }

    /**
     * Up to the SIDE 3 the COMPLETIONS of an EMPTY square are the FORMS of any one of them: points leave one COMPLETION
     * if they tell the square from each of its FORMS that is another.
     */
    private static final class Givens {
        private final int[] differences;

        Givens() {
            differences = new int[Forms.COUNT];
        }

        /** Returns the least of the smallest sets, as bits of places. */
        int fewestOf(Figure figure) {
            for (int form = 0; form < differences.length; form++) {
                differences[form] = differenceOf(figure, form);
            }
            int all = (1 << figure.size()) - 1;
            int fewest = all;
            for (int set = 0; set < all; set++) {
                if (Integer.bitCount(set) < Integer.bitCount(fewest) && tellsAllApart(set)) {
                    fewest = set;
                }
            }
            return fewest;
        }

        private static int differenceOf(Figure figure, int form) {
            int difference = 0;
            for (int place = 0; place < figure.size(); place++) {
                if (Forms.numberIn(figure, form, place) != figure.read(place)) {
                    difference |= 1 << place;
                }
            }
            return difference;
        }

        private boolean tellsAllApart(int set) {
            for (int difference : differences) {
                if (difference != 0 && (difference & set) == 0) {
                    return false;
                }
            }
            return true;
        }
    }

    /** The numbers that, each in place of one, make ROWS, COLUMNS and DIAGONALS hold. */
    private static final class Slips {
        static final int COUNT = 0, FIRST_PLACE = 1, FIRST_NUMBER = 2;

        static int tell(Figure figure, int what) {
            if (figure.side() == 1) {
                return tellOfOnePoint(figure.read(0), what);
            }
            int count = 0;
            for (int place = 0; place < figure.size(); place++) {
                int number = mendingAt(figure, place);
                if (number != NONE) {
                    if (what != COUNT) {
                        return what == FIRST_PLACE ? place : number;
                    }
                    count++;
                }
            }
            return what == COUNT ? count : NONE;
        }

        /** On one point all lines are one, so that each number will do. */
        private static int tellOfOnePoint(int number, int what) {
            switch (what) {
                case COUNT:
                    return number == EMPTY ? MOST_NUMBER : MOST_NUMBER - 1;
                case FIRST_PLACE:
                    return 0;
                default:
                    return number == 1 ? 2 : 1;
            }
        }

        /** From the SIDE 2 on another row tells the only number that can do; NONE if it does not. */
        private static int mendingAt(Figure figure, int place) {
            int row = Places.rowOf(figure.side(), place);
            int otherRow = row == 0 ? 1 : 0;
            int old = figure.read(place);
            int number = old + figure.lineSum(IN_ROWS, otherRow) - figure.lineSum(IN_ROWS, row);
            if (number == old || number < 1 || number > MOST_NUMBER) {
                return NONE;
            }
            figure.write(place, number);
            boolean isMended = Laws.isMagic(figure);
            figure.write(place, old);
            return isMended ? number : NONE;
        }
    }

    /** What two squares are or make together. */
    private static final class Pairs {
        static boolean areOrthogonal(Figure first, Figure second) {
            for (int place = 0; place < first.size(); place++) {
                for (int earlier = 0; earlier < place; earlier++) {
                    if (first.read(place) == first.read(earlier) && second.read(place) == second.read(earlier)) {
                        return false;
                    }
                }
            }
            return true;
        }

        static boolean canStack(Figure first, Figure second) {
            int side = first.side();
            return side == second.side() && areBothFull(first, second)
                && first.highest() <= side && second.highest() <= side;
        }

        static void layStack(Figure stacked, Figure first, Figure second) {
            for (int place = 0; place < stacked.size(); place++) {
                stacked.write(place, first.side() * (first.read(place) - 1) + second.read(place));
            }
        }

        static boolean canMultiply(Figure first, Figure second) {
            return first.side() * second.side() <= MOST_SIDE && areBothFull(first, second)
                && multiplied(second, first.highest(), second.highest()) <= MOST_NUMBER;
        }

        static void layProduct(Figure product, Figure first, Figure second) {
            int m = second.side();
            for (int place = 0; place < product.size(); place++) {
                int row = Places.rowOf(product.side(), place);
                int column = Places.columnOf(product.side(), place);
                int large = first.read(first.placeOf(Places.rowOf(m, row), Places.rowOf(m, column)));
                int small = second.read(second.placeOf(Places.wrap(row, m), Places.wrap(column, m)));
                product.write(place, multiplied(second, large, small));
            }
        }

        private static int multiplied(Figure second, int large, int small) {
            return second.size() * (large - 1) + small;
        }

        private static boolean areBothFull(Figure first, Figure second) {
            return first.countOf(EMPTY) == 0 && second.countOf(EMPTY) == 0;
        }
    }

    /**
     * Equations between the points of a figure, by remainders. The sum of the lines, whichever it is, is one more
     * unknown, and that of opposite points another one: each of the two is told by the points as soon as an equation
     * has it, and so it adds nothing to the dimension.
     */
    private static final class Space {
        static final int TOLD_LAWS = ROWS | COLUMNS | DIAGONALS | BROKEN | OPPOSITE;

        private static final int LINE_LAWS = ROWS | COLUMNS | DIAGONALS | BROKEN;
        private static final int PRIME = 1000003;
        private static final int MINUS_ONE = PRIME - 1;
        private static final int LINE_SUM = MOST_SPACE_SIDE * MOST_SPACE_SIDE;
        private static final int OPPOSITE_SUM = LINE_SUM + 1;
        private static final int WIDTH = LINE_SUM + 2;

        private final int[][] rows;
        private final int[] leads;
        private final int[] row;
        private int rank;
        private int side;

        Space() {
            rows = new int[WIDTH][WIDTH];
            leads = new int[WIDTH];
            row = new int[WIDTH];
            side = 1;
        }

        int dimensionOf(int newSide, int laws) {
            side = newSide;
            rank = 0;
            int unknowns = side * side;
            if ((laws & LINE_LAWS) != 0) {
                addLines(laws);
                unknowns++;
            }
            if ((laws & OPPOSITE) != 0) {
                addOpposites();
                unknowns++;
            }
            return unknowns - rank;
        }

        private void addLines(int laws) {
            boolean isBroken = (laws & BROKEN) != 0;
            boolean isDiagonal = (laws & DIAGONALS) != 0;
            for (int line = 0; line < side; line++) {
                if ((laws & ROWS) != 0) {
                    addLine(IN_ROWS, line);
                }
                if ((laws & COLUMNS) != 0) {
                    addLine(IN_COLUMNS, line);
                }
                if (isBroken || isDiagonal && line == 0) {
                    addLine(DOWN_RIGHT, line);
                }
                if (isBroken || isDiagonal && line == side - 1) {
                    addLine(DOWN_LEFT, line);
                }
            }
        }

        private void addLine(int kind, int line) {
            clearRow();
            for (int step = 0; step < side; step++) {
                addToRow(Places.onLine(side, kind, line, step), 1);
            }
            addToRow(LINE_SUM, MINUS_ONE);
            addRow();
        }

        private void addOpposites() {
            int last = side * side - 1;
            for (int place = 0; place <= last - place; place++) {
                clearRow();
                addToRow(place, 1);
                addToRow(last - place, 1);
                addToRow(OPPOSITE_SUM, MINUS_ONE);
                addRow();
            }
        }

        private void clearRow() {
            for (int i = 0; i < row.length; i++) {
                row[i] = 0;
            }
        }

        private void addToRow(int unknown, int times) {
            if (unknown >= 0 && unknown < row.length) {
                row[unknown] += times;
            }
        }

        /** A kept row has 0 at the leads of those ahead of it, so that one pass through them is enough. */
        private void addRow() {
            for (int kept = 0; kept < rank && kept < rows.length && kept < leads.length; kept++) {
                reduceBy(rows[kept], leads[kept]);
            }
            int lead = leadOfRow();
            if (lead != NONE && rank >= 0 && rank < rows.length && rank < leads.length) {
                leads[rank] = lead;
                copyRowTo(rows[rank]);
                rank++;
            }
        }

        /** Both rows are multiplied, which needs no inverse: the prime divides no lead. */
        private void reduceBy(int[] kept, int lead) {
            if (kept == null || lead < 0 || lead >= kept.length || lead >= row.length || row[lead] == 0) {
                return;
            }
            long times = kept[lead];
            long keptTimes = row[lead];
            for (int i = 0; i < row.length && i < kept.length; i++) {
                row[i] = (int) Math.floorMod(row[i] * times - kept[i] * keptTimes, (long) PRIME);
            }
        }

        private int leadOfRow() {
            for (int i = 0; i < row.length; i++) {
                if (row[i] != 0) {
                    return i;
                }
            }
            return NONE;
        }

        private void copyRowTo(int[] kept) {
            if (kept == null) {
                return;
            }
            for (int i = 0; i < row.length && i < kept.length; i++) {
                kept[i] = row[i];
            }
        }
    }
}
