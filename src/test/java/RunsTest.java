/** Promises 2 to 22: runs of 512 drawn calls on one object, right and wrong ones, each held against the document's words. */
public final class RunsTest {
    private static final int RUNS = 40;
    private static final int CALLS_THAT_LAY = 12;
    private static final int CALLS_THAT_READ = 64;
    private static final int METHODS = 21;
    private static final int READING = 5;
    private static final int DIMENSION = 20;

    private final Draw draw;
    private final Twin twin;

    private RunsTest(int run) {
        draw = new Draw(run);
        twin = new Twin("run " + run);
    }

    public static void main(String[] args) {
        for (int run = 0; run < RUNS; run++) {
            new RunsTest(run).run();
        }
        Check.end("RunsTest");
    }

    /** The last ones of the 512 read points that are drawn: more calls than these are free to answer otherwise. */
    private void run() {
        while (twin.calls() < Halls.MOST_CALLS) {
            int kind = READING;
            if (twin.calls() < CALLS_THAT_LAY) {
                kind = draw.below(3) * 3 / 2;
            } else if (twin.calls() < Halls.MOST_CALLS - CALLS_THAT_READ) {
                kind = draw.below(METHODS);
            }
            ask(kind, drawn(9), drawn(kind == DIMENSION ? 63 : 8), drawn(6), draw.below(9) == 0 ? drawn(1000) : drawn(17));
        }
    }

    /** Mostly small and right, now and then one beyond, or far off. */
    private int drawn(int most) {
        int way = draw.below(40);
        if (way == 0) {
            return -1 - draw.below(2);
        }
        return way == 1 ? Integer.MAX_VALUE - draw.below(2) : way == 2 ? Integer.MIN_VALUE + draw.below(2) : draw.below(most + 1);
    }

    private void ask(int kind, int a, int b, int c, int d) {
        switch (kind) {
            case 0 -> twin.square(a);
            case 1 -> twin.make(a % 5, b);
            case 2 -> twin.stack(a, b);
            case 3 -> twin.product(a, b);
            case 4 -> twin.put(a, b, c, d);
            case READING -> twin.at(a, b, c);
            case 6 -> twin.laws(a);
            case 7 -> twin.sum(a, c, b);
            case 8 -> twin.change(a, c, c == LoshuHall.COMPLEMENT ? d : b);
            case 9 -> twin.same(a, b);
            case 10 -> twin.least(a, b, c);
            case 11 -> twin.kin(a);
            case 12 -> twin.classes();
            case 13 -> twin.completions(a);
            case 14 -> twin.completion(a, d, b, c);
            case 15 -> twin.estimate(a, d * 64);
            case 16 -> twin.givens(a, b % 2 == 0);
            case 17 -> twin.slip(a, c);
            case 18 -> twin.orthogonal(a, b);
            case 19 -> twin.crossings(a, d);
            default -> twin.dimension(a, b);
        }
    }
}
