import java.util.List;

/** The greedy ways, all sums, the fewest terms, the bounds and the ways to make a sum, for every fraction there is. */
public final class EveryFractionTest {
    private static final int MOST_CALLS = 512;

    private final Check check = new Check();
    private final Table table = new Table();
    private UnitSums real;
    private int calls;
    private int p;
    private int q;

    public static void main(String[] args) {
        new EveryFractionTest().go();
    }

    private void go() {
        for (q = 1; q <= 99; q++) {
            for (p = 1; p <= 99 && p <= 2 * q; p++) {
                tell();
                greedy(0);
                greedy(1);
                made(2, table.ofFewest(p, q));
                made(3, table.ofLeastBound(p, q));
                for (int n = 1; n <= 5; n++) sums(n);
                fewest();
            }
        }
        check.end("EveryFractionTest");
    }

    private void tell() {
        real = new UnitSums();
        String text = "p" + p + " " + q + ";";
        for (int i = 0; i < text.length(); i++) real.type(text.charAt(i));
        calls = text.length() + 1;
        check.due(text, 1, real.fraction());
    }

    private void due(String call, int want, int got) {
        calls++;
        check.due("p " + p + " " + q + "; " + call, want, got);
        if (calls > MOST_CALLS - 12) tell();
    }

    private void greedy(int way) {
        List<Integer> row = Model.greedyRow(p, q, way == 1);
        due("greedy(" + way + ", -1)", row == null ? UnitSums.NONE : row.size(), real.greedy(way, -1));
        for (int k = 0; k <= 8; k++) {
            int want = row == null || k >= row.size() ? UnitSums.NONE : row.get(k);
            due("greedy(" + way + ", " + k + ")", want, real.greedy(way, k));
        }
        int[] numbers = row == null ? null : row.stream().mapToInt(Integer::intValue).toArray();
        made(way, numbers);
    }

    private void made(int way, int[] row) {
        due("makes(" + way + ")", row == null ? UnitSums.STATE : row.length, real.makes(way));
        for (int k = 0; row != null && k < row.length; k++) {
            due("makes(" + way + ") term(" + k + ")", row[k], real.term(k));
        }
    }

    private void sums(int n) {
        due("bound(" + n + ")", table.bound(p, q, n), real.bound(n));
        for (int d = 1; d <= 60; d++) {
            due("sums(" + n + ", " + d + ")", table.sums(p, q, n, d).size(), real.sums(n, d));
        }
        for (int d = 20; d <= 60; d += 20) {
            List<int[]> all = table.sums(p, q, n, d);
            for (int k = 0; k < all.size(); k++) {
                for (int i = 0; i < n; i++) {
                    due("sum(" + n + ", " + d + ", " + k + ", " + i + ")", all.get(k)[i], real.sum(n, d, k, i));
                }
            }
            due("sum(" + n + ", " + d + ", " + all.size() + ", 0)", UnitSums.NONE, real.sum(n, d, all.size(), 0));
            due("sum(" + n + ", " + d + ", 0, " + n + ")", UnitSums.NONE, real.sum(n, d, 0, n));
        }
    }

    private void fewest() {
        for (int d = 1; d <= 60; d++) {
            due("fewest(" + d + ")", table.fewest(p, q, d), real.fewest(d));
        }
    }
}
