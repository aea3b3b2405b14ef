import java.util.ArrayList;
import java.util.List;

/** Every sum of one to five unlike numbers to 60 that is a fraction to 99 by 99, by plain enumeration. */
final class Table {
    private final List<List<int[]>> cells = new ArrayList<>();

    Table() {
        for (int i = 0; i < 6 * 100 * 100; i++) {
            cells.add(null);
        }
        for (int n = 1; n <= 5; n++) {
            enumerate(new int[n], 0, 0, 1);
        }
    }

    private static int cell(int n, long p, long q) {
        return (int) ((n * 100 + p) * 100 + q);
    }

    private void enumerate(int[] numbers, int filled, long above, long below) {
        if (filled == numbers.length) {
            long common = gcd(above, below);
            long p = above / common;
            long q = below / common;
            if (p <= 99 && q <= 99 && p <= 2 * q) {
                int at = cell(numbers.length, p, q);
                if (cells.get(at) == null) {
                    cells.set(at, new ArrayList<>());
                }
                cells.get(at).add(numbers.clone());
            }
            return;
        }
        for (int next = filled == 0 ? 1 : numbers[filled - 1] + 1; next <= 60; next++) {
            numbers[filled] = next;
            enumerate(numbers, filled + 1, above * next + below, below * next);
        }
    }

    static long gcd(long a, long b) {
        return b == 0 ? a : gcd(b, a % b);
    }

    List<int[]> sums(int p, int q, int n, int d) {
        long common = gcd(p, q);
        List<int[]> all = cells.get(cell(n, p / common, q / common));
        List<int[]> within = new ArrayList<>();
        if (all != null) {
            for (int[] numbers : all) {
                if (numbers[n - 1] <= d) {
                    within.add(numbers);
                }
            }
        }
        return within;
    }

    int fewest(int p, int q, int d) {
        for (int n = 1; n <= 5; n++) {
            if (!sums(p, q, n, d).isEmpty()) {
                return n;
            }
        }
        return -9;
    }

    int bound(int p, int q, int n) {
        for (int d = 1; d <= 60; d++) {
            if (!sums(p, q, n, d).isEmpty()) {
                return d;
            }
        }
        return -9;
    }

    /** What makes(2) gives, or null. */
    int[] ofFewest(int p, int q) {
        int n = fewest(p, q, 60);
        return n < 0 ? null : sums(p, q, n, 60).get(0);
    }

    /** What makes(3) gives, or null. */
    int[] ofLeastBound(int p, int q) {
        for (int d = 1; d <= 60; d++) {
            for (int n = 1; n <= 5; n++) {
                List<int[]> within = sums(p, q, n, d);
                if (!within.isEmpty()) {
                    return within.get(0);
                }
            }
        }
        return null;
    }
}
