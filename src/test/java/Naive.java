import java.util.ArrayList;
import java.util.List;
import java.util.TreeSet;

/** The document's words once more, in the slowest and plainest way, to hold the class against. */
final class Naive {
    /** Looked for once: all ways to lay nine numbers are many. */
    private static final List<int[][]> OF_EMPTY_THREE = completions(new int[3][3]);

    private Naive() { }

    static int[][] copy(int[][] a) {
        int[][] b = new int[a.length][];
        for (int r = 0; r < a.length; r++) {
            b[r] = a[r].clone();
        }
        return b;
    }

    static int mod(int value, int by) {
        return ((value % by) + by) % by;
    }

    // ---- makers

    /** SIEGE by its closed form: each SIDE of numbers goes up to the right, and begins two rows below, one column to the left. */
    static int[][] siege(int n) {
        int[][] a = new int[n][n];
        for (int k = 0; k < n * n; k++) {
            a[mod(2 * (k / n) - k % n, n)][mod(n / 2 - k / n + k % n, n)] = k + 1;
        }
        return a;
    }

    static int[][] cross(int n) {
        int[][] a = new int[n][n];
        for (int r = 0; r < n; r++) {
            for (int c = 0; c < n; c++) {
                boolean isOnCross = (r - c) % 4 == 0 || (r + c) % 4 == 3;
                a[r][c] = isOnCross ? n * n - n * r - c : n * r + c + 1;
            }
        }
        return a;
    }

    static int[][] digits(int n) {
        int[][] a = new int[n][n];
        for (int r = 0; r < n; r++) {
            for (int c = 0; c < n; c++) {
                a[r][c] = n * ((r + 2 * c) % n) + (2 * r + c) % n + 1;
            }
        }
        return a;
    }

    static int[][] lux() {
        int[][] three = siege(3);
        int[][] a = new int[6][6];
        for (int r = 0; r < 6; r++) {
            for (int c = 0; c < 6; c++) {
                boolean isUnlike = r / 2 == 1 && c / 2 == 1 || r / 2 == 2 && c / 2 != 1;
                String order = isUnlike ? "1423" : "4123";
                a[r][c] = 4 * (three[r / 2][c / 2] - 1) + order.charAt(r % 2 * 2 + c % 2) - '0';
            }
        }
        return a;
    }

    // ---- laws

    static int sum(int[][] a, int kind, int k) {
        int n = a.length;
        int total = 0;
        for (int i = 0; i < n; i++) {
            total += kind == 0 ? a[k][i] : kind == 1 ? a[i][k] : kind == 2 ? a[i][mod(k + i, n)] : a[i][mod(k - i, n)];
        }
        return total;
    }

    static boolean linesSum(int[][] a, int kind, int due) {
        for (int k = 0; k < a.length; k++) {
            if (sum(a, kind, k) != due) {
                return false;
            }
        }
        return true;
    }

    static boolean magic(int[][] a) {
        int due = sum(a, 0, 0);
        int left = 0;
        int right = 0;
        for (int i = 0; i < a.length; i++) {
            left += a[i][a.length - 1 - i];
            right += a[i][i];
        }
        return linesSum(a, 0, due) && linesSum(a, 1, due) && left == due && right == due;
    }

    static boolean normal(int[][] a) {
        TreeSet<Integer> seen = new TreeSet<>();
        for (int[] row : a) {
            for (int number : row) {
                if (number >= 1 && number <= a.length * a.length) {
                    seen.add(number);
                }
            }
        }
        return seen.size() == a.length * a.length;
    }

    static int laws(int[][] a) {
        int n = a.length;
        int due = sum(a, 0, 0);
        TreeSet<Integer> opposites = new TreeSet<>();
        TreeSet<Integer> powers = new TreeSet<>();
        boolean isFull = true;
        for (int r = 0; r < n; r++) {
            int rowPower = 0;
            int columnPower = 0;
            for (int c = 0; c < n; c++) {
                isFull &= a[r][c] != 0;
                rowPower += a[r][c] * a[r][c];
                columnPower += a[c][r] * a[c][r];
                opposites.add(a[r][c] + a[n - 1 - r][n - 1 - c]);
            }
            powers.add(rowPower);
            powers.add(columnPower);
        }
        boolean isDiagonal = sum(a, 2, 0) == due && sum(a, 3, n - 1) == due;
        boolean isBroken = linesSum(a, 2, due) && linesSum(a, 3, due);
        return (isFull ? 1 : 0) + (linesSum(a, 0, due) ? 2 : 0) + (linesSum(a, 1, due) ? 4 : 0) + (isDiagonal ? 8 : 0)
            + (isBroken ? 16 : 0) + (opposites.size() == 1 ? 32 : 0) + (normal(a) ? 64 : 0) + (powers.size() == 1 ? 128 : 0);
    }

    // ---- forms

    /** The document's TURN of 1, as often as told: a TURN of 2 is two of them. */
    static int[][] turned(int[][] a, int times) {
        int n = a.length;
        int[][] b = copy(a);
        for (int i = 0; i < times; i++) {
            int[][] from = copy(b);
            for (int r = 0; r < n; r++) {
                for (int c = 0; c < n; c++) {
                    b[r][c] = from[n - 1 - c][r];
                }
            }
        }
        return b;
    }

    static int[][] flipped(int[][] a) {
        int[][] b = copy(a);
        for (int r = 0; r < a.length; r++) {
            for (int c = 0; c < a.length; c++) {
                b[r][c] = a[r][a.length - 1 - c];
            }
        }
        return b;
    }

    static List<int[][]> forms(int[][] a) {
        List<int[][]> forms = new ArrayList<>();
        for (int t = 0; t < 4; t++) {
            forms.add(turned(a, t));
            forms.add(turned(flipped(a), t));
        }
        return forms;
    }

    static int compare(int[][] a, int[][] b) {
        for (int p = 0; p < a.length * a.length; p++) {
            int one = a[p / a.length][p % a.length];
            int other = b[p / a.length][p % a.length];
            if (one != other) {
                return one - other;
            }
        }
        return 0;
    }

    static boolean kin(int[][] a, int[][] b) {
        if (a.length != b.length) {
            return false;
        }
        for (int[][] form : forms(a)) {
            if (compare(form, b) == 0) {
                return true;
            }
        }
        return false;
    }

    static int[][] least(int[][] a) {
        int[][] least = a;
        for (int[][] form : forms(a)) {
            if (compare(form, least) < 0) {
                least = form;
            }
        }
        return least;
    }

    static int differing(int[][] a, int[][] b) {
        int count = 0;
        for (int r = 0; r < a.length; r++) {
            for (int c = 0; c < a.length; c++) {
                count += a[r][c] == b[r][c] ? 0 : 1;
            }
        }
        return count;
    }

    /** TURN by its four cases as the document words them, and the others. */
    static int[][] changed(int[][] a, int change, int by) {
        int n = a.length;
        int l = n - 1;
        int[][] b = copy(a);
        for (int r = 0; r < n; r++) {
            for (int c = 0; c < n; c++) {
                switch (change) {
                    case 0:
                        b[r][c] = by == 0 ? a[r][c] : by == 1 ? a[l - c][r] : by == 2 ? a[l - r][l - c] : a[c][l - r];
                        break;
                    case 1:
                        b[r][c] = by == 0 ? a[r][c] : a[r][l - c];
                        break;
                    case 2:
                        b[r][c] = a[r][c] == 0 ? 0 : by - a[r][c];
                        break;
                    case 3:
                        b[r][c] = a[mod(r - by, n)][c];
                        break;
                    case 4:
                        b[r][c] = a[r][mod(c - by, n)];
                        break;
                    default:
                        break;
                }
            }
        }
        if (change == 5) {
            b[by] = a[l - by].clone();
            b[l - by] = a[by].clone();
            for (int r = 0; r < n; r++) {
                int kept = b[r][by];
                b[r][by] = b[r][l - by];
                b[r][l - by] = kept;
            }
        }
        return b;
    }

    // ---- completions

    static List<int[][]> completions(int[][] a) {
        List<int[][]> all = new ArrayList<>();
        complete(copy(a), 0, all);
        return all;
    }

    private static void complete(int[][] a, int place, List<int[][]> all) {
        int n = a.length;
        if (place == n * n) {
            if (magic(a) && normal(a)) {
                all.add(copy(a));
            }
            return;
        }
        if (a[place / n][place % n] != 0) {
            complete(a, place + 1, all);
            return;
        }
        for (int number = 1; number <= n * n; number++) {
            if (!has(a, number)) {
                a[place / n][place % n] = number;
                complete(a, place + 1, all);
                a[place / n][place % n] = 0;
            }
        }
    }

    static boolean has(int[][] a, int wanted) {
        for (int[] row : a) {
            for (int number : row) {
                if (number == wanted) {
                    return true;
                }
            }
        }
        return false;
    }

    static boolean fits(int[][] a) {
        int n = a.length;
        int due = n * (n * n + 1) / 2;
        TreeSet<Integer> seen = new TreeSet<>();
        for (int[] row : a) {
            for (int number : row) {
                if (number > n * n || number != 0 && !seen.add(number)) {
                    return false;
                }
            }
        }
        for (int k = 0; k < n; k++) {
            if (!fitsLine(a, 0, k, due) || !fitsLine(a, 1, k, due)) {
                return false;
            }
        }
        return fitsLine(a, 2, 0, due) && fitsLine(a, 3, n - 1, due);
    }

    private static boolean fitsLine(int[][] a, int kind, int k, int due) {
        int n = a.length;
        boolean isFull = true;
        for (int i = 0; i < n; i++) {
            int number = kind == 0 ? a[k][i] : kind == 1 ? a[i][k] : kind == 2 ? a[i][mod(k + i, n)] : a[i][mod(k - i, n)];
            isFull &= number != 0;
        }
        return isFull ? sum(a, kind, k) == due : sum(a, kind, k) < due;
    }

    static long estimate(int[][] square, int seed) {
        int[][] a = copy(square);
        int n = a.length;
        if (!fits(a)) {
            return 0;
        }
        long product = 1;
        long state = seed;
        for (int p = 0; p < n * n; p++) {
            if (a[p / n][p % n] != 0) {
                continue;
            }
            List<Integer> choices = new ArrayList<>();
            for (int number = 1; number <= n * n; number++) {
                if (!has(a, number)) {
                    a[p / n][p % n] = number;
                    if (fits(a)) {
                        choices.add(number);
                    }
                    a[p / n][p % n] = 0;
                }
            }
            if (choices.isEmpty()) {
                return 0;
            }
            product *= choices.size();
            state = (25173 * state + 13849) % 65536;
            a[p / n][p % n] = choices.get((int) (state % choices.size()));
        }
        return product;
    }

    /** The least of the smallest sets, where the COMPLETIONS of a set are those of the EMPTY square that agree with it. */
    static int givens(int[][] a) {
        int n = a.length;
        List<int[][]> all = n == 3 ? OF_EMPTY_THREE : completions(new int[n][n]);
        int best = -1;
        for (int set = 0; set < 1 << n * n; set++) {
            int agreeing = 0;
            for (int[][] other : all) {
                agreeing += agrees(a, other, set) ? 1 : 0;
            }
            if (agreeing == 1 && (best < 0 || Integer.bitCount(set) < Integer.bitCount(best))) {
                best = set;
            }
        }
        return best;
    }

    private static boolean agrees(int[][] a, int[][] b, int set) {
        for (int p = 0; p < a.length * a.length; p++) {
            if ((set >> p & 1) != 0 && a[p / a.length][p % a.length] != b[p / a.length][p % a.length]) {
                return false;
            }
        }
        return true;
    }

    // ---- slips, pairs

    /** How many, the first place, the first number. */
    static int[] slips(int[][] square) {
        int n = square.length;
        int[] told = {0, -1, -1};
        for (int p = 0; p < n * n; p++) {
            for (int number = 1; number <= 999; number++) {
                int[][] a = copy(square);
                a[p / n][p % n] = number;
                if (number != square[p / n][p % n] && magic(a)) {
                    if (told[0] == 0) {
                        told[1] = p;
                        told[2] = number;
                    }
                    told[0]++;
                }
            }
        }
        return told;
    }

    static boolean orthogonal(int[][] a, int[][] b) {
        int n = a.length;
        TreeSet<Integer> seen = new TreeSet<>();
        for (int p = 0; p < n * n; p++) {
            if (!seen.add(1000 * a[p / n][p % n] + b[p / n][p % n])) {
                return false;
            }
        }
        return true;
    }

    static int crossings(int[][] a, int total) {
        return crossingsFrom(a, 0, new boolean[a.length], total);
    }

    private static int crossingsFrom(int[][] a, int row, boolean[] taken, int rest) {
        if (row == a.length) {
            return rest == 0 ? 1 : 0;
        }
        int ways = 0;
        for (int c = 0; c < a.length; c++) {
            if (!taken[c]) {
                taken[c] = true;
                ways += crossingsFrom(a, row + 1, taken, rest - a[row][c]);
                taken[c] = false;
            }
        }
        return ways;
    }

    // ---- dimension

    /** Each line less the first line, each two of opposite points less the first two; then Gauss with inverses. */
    static int dimension(int n, int laws) {
        List<long[]> lines = new ArrayList<>();
        for (int k = 0; k < n; k++) {
            for (int kind = 0; kind < 4; kind++) {
                boolean isDiagonal = kind == 2 && k == 0 || kind == 3 && k == n - 1;
                boolean isTold = kind == 0 && (laws & 2) != 0 || kind == 1 && (laws & 4) != 0
                    || isDiagonal && (laws & 8) != 0 || kind >= 2 && (laws & 16) != 0;
                if (isTold) {
                    long[] line = new long[n * n];
                    for (int i = 0; i < n; i++) {
                        int p = kind == 0 ? n * k + i : kind == 1 ? n * i + k
                            : kind == 2 ? n * i + mod(k + i, n) : n * i + mod(k - i, n);
                        line[p]++;
                    }
                    lines.add(line);
                }
            }
        }
        List<long[]> equations = differences(lines);
        if ((laws & 32) != 0) {
            List<long[]> twos = new ArrayList<>();
            for (int p = 0; p < n * n; p++) {
                long[] two = new long[n * n];
                two[p]++;
                two[n * n - 1 - p]++;
                twos.add(two);
            }
            equations.addAll(differences(twos));
        }
        return n * n - rank(equations, n * n);
    }

    private static List<long[]> differences(List<long[]> lines) {
        List<long[]> all = new ArrayList<>();
        for (int i = 1; i < lines.size(); i++) {
            long[] difference = lines.get(i).clone();
            for (int p = 0; p < difference.length; p++) {
                difference[p] -= lines.get(0)[p];
            }
            all.add(difference);
        }
        return all;
    }

    private static int rank(List<long[]> rows, int width) {
        final long prime = 1000003;
        int rank = 0;
        for (int c = 0; c < width; c++) {
            int pivot = -1;
            for (int i = rank; i < rows.size() && pivot < 0; i++) {
                pivot = Math.floorMod(rows.get(i)[c], prime) != 0 ? i : -1;
            }
            if (pivot < 0) {
                continue;
            }
            long[] lead = rows.get(pivot);
            rows.set(pivot, rows.get(rank));
            rows.set(rank, lead);
            long inverse = java.math.BigInteger.valueOf(lead[c]).modInverse(java.math.BigInteger.valueOf(prime)).longValue();
            for (int i = rank + 1; i < rows.size(); i++) {
                long times = Math.floorMod(rows.get(i)[c], prime) * inverse % prime;
                for (int p = 0; p < width; p++) {
                    rows.get(i)[p] = Math.floorMod(rows.get(i)[p] - times * Math.floorMod(lead[p], prime), prime);
                }
            }
            rank++;
        }
        return rank;
    }
}
