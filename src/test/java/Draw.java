/** Numbers that look drawn, but are the same in each run. */
final class Draw {
    private long state;

    Draw(long seed) {
        state = seed * 2862933555777941757L + 3037000493L;
    }

    int below(int bound) {
        state = state * 6364136223846793005L + 1442695040888963407L;
        return (int) ((state >>> 33) % bound);
    }

    /** Numbers up to the bound; about one of so many points is EMPTY. */
    int[][] square(int side, int bound, int emptyOneOf) {
        int[][] a = new int[side][side];
        for (int[] row : a) {
            for (int c = 0; c < side; c++) {
                row[c] = below(emptyOneOf) == 0 ? 0 : 1 + below(bound);
            }
        }
        return a;
    }

    /** So many points of it are EMPTY. */
    int[][] holed(int[][] square, int holes) {
        int[][] a = Naive.copy(square);
        int n = a.length;
        for (int made = 0; made < holes;) {
            int p = below(n * n);
            if (a[p / n][p % n] != 0) {
                a[p / n][p % n] = 0;
                made++;
            }
        }
        return a;
    }
}
