import java.math.BigInteger;
import java.util.ArrayList;
import java.util.List;

/** The document again, written for plainness alone: big numbers, whole copies, no tables but one. */
final class Model {
    private static final int BAD = -1, STATE = -2, FULL = -3, NONE = -9;

    private final Table table;
    private int p = 2;
    private int q = 3;
    private List<Integer> terms = new ArrayList<>();
    private String text = "";
    private final List<List<Integer>> past = new ArrayList<>();
    private final List<List<Integer>> images = new ArrayList<>();
    private final List<int[]> seen = new ArrayList<>();

    Model(Table table) {
        this.table = table;
        images.add(null);
        images.add(null);
    }

    int type(int letter) {
        if (letter < 0 || letter > 255) return BAD;
        if (text.length() == 60) return FULL;
        text += (char) letter;
        return text.length();
    }

    int clear() {
        int had = text.length();
        text = "";
        return had;
    }

    /** The fault's place is found by taking away from behind: the tokens as far as they can stand. */
    int fraction() {
        List<Integer> starts = new ArrayList<>();
        List<String> tokens = new ArrayList<>();
        for (int i = 0; i < text.length(); i++) {
            if (text.charAt(i) == ' ') continue;
            int end = i + 1;
            if (Character.isDigit(text.charAt(i)) && text.charAt(i) < 128) {
                while (end < text.length() && text.charAt(end) >= '0' && text.charAt(end) <= '9') end++;
            }
            starts.add(i);
            tokens.add(text.substring(i, end));
            i = end - 1;
        }
        for (int t = 0; t < tokens.size(); t++) {
            if (!mayStand(tokens, t)) return -10 - starts.get(t);
        }
        int stops = 0;
        for (String token : tokens) stops += token.equals(";") ? 1 : 0;
        if (!tokens.isEmpty() && !tokens.get(tokens.size() - 1).equals(";")) return -10 - text.length();
        p = stops > 0 ? Integer.parseInt(tokens.get(1)) : 2;
        q = stops > 0 ? Integer.parseInt(tokens.get(2)) : 3;
        terms = new ArrayList<>();
        for (int t = 5; t < tokens.size() - 1; t++) terms.add(Integer.parseInt(tokens.get(t)));
        text = "";
        past.clear();
        seen.clear();
        images.set(0, null);
        images.set(1, null);
        return stops;
    }

    /** Whether the t-th token may stand behind those ahead, all of which may. */
    private static boolean mayStand(List<String> tokens, int t) {
        String token = tokens.get(t);
        boolean number = token.matches("[1-9][0-9]?");
        if (t == 0) return token.equals("p");
        if (t == 1) return number;
        if (t == 2) return number && Integer.parseInt(tokens.get(1)) <= 2 * Integer.parseInt(token);
        if (t == 3) return token.equals(";");
        if (t == 4) return token.equals("s");
        if (tokens.subList(4, t).contains(";")) return false;
        if (number) {
            int value = Integer.parseInt(token);
            return value <= 60 && t < 13 && (t == 5 || value > Integer.parseInt(tokens.get(t - 1)));
        }
        if (!token.equals(";") || t == 5) return false;
        BigInteger above = BigInteger.ZERO;
        BigInteger below = BigInteger.ONE;
        for (String told : tokens.subList(5, t)) {
            above = above.multiply(new BigInteger(told)).add(below);
            below = below.multiply(new BigInteger(told));
        }
        return above.multiply(new BigInteger(tokens.get(2))).equals(below.multiply(new BigInteger(tokens.get(1))));
    }

    private int become(List<Integer> row) {
        past.add(terms);
        if (past.size() > 10) past.remove(0);
        terms = row;
        return row.size();
    }

    int makes(int way) {
        if (way < 0 || way > 3) return BAD;
        if (way < 2) {
            List<Integer> row = greedyRow(p, q, way == 1);
            return row == null ? STATE : become(row);
        }
        int[] made = way == 2 ? table.ofFewest(p, q) : table.ofLeastBound(p, q);
        if (made == null) return STATE;
        List<Integer> row = new ArrayList<>();
        for (int number : made) row.add(number);
        return become(row);
    }

    int splits(int k, int rule) {
        if (k < 0 || k >= terms.size() || rule < 0 || rule > 3) return BAD;
        long d = terms.get(k);
        long[] parts;
        if (rule == 0) parts = new long[] {d + 1, d * d + d};
        else if (rule == 1) parts = d % 2 == 0 ? new long[] {3 * d / 2, 3 * d} : null;
        else if (rule == 2) parts = d % 3 == 0 ? new long[] {4 * d / 3, 4 * d} : null;
        else parts = new long[] {2 * d, 3 * d, 6 * d};
        if (parts == null || terms.size() - 1 + parts.length > 8) return STATE;
        List<Integer> row = new ArrayList<>(terms);
        row.remove(k);
        for (long part : parts) {
            if (part > 1000000 || row.contains((int) part)) return STATE;
            row.add((int) part);
        }
        row.sort(null);
        return become(row);
    }

    int joins(int j, int k) {
        if (j < 0 || k < 0 || j >= terms.size() || k >= terms.size() || j == k) return BAD;
        List<Integer> row = new ArrayList<>(terms);
        long a = row.remove(Math.max(j, k));
        long b = row.remove(Math.min(j, k));
        for (int c = 1; c < Math.min(a, b); c++) {
            if (c * (a + b) == a * b) {
                if (row.contains(c)) return STATE;
                row.add(c);
                row.sort(null);
                become(row);
                return c;
            }
        }
        return STATE;
    }

    int undo() {
        if (past.isEmpty()) return STATE;
        terms = past.remove(past.size() - 1);
        return past.size();
    }

    int term(int k) {
        if (k < 0) return BAD;
        return k < terms.size() ? terms.get(k) : NONE;
    }

    /** The greedy row, or null if it does not come out. */
    static List<Integer> greedyRow(int p, int q, boolean odd) {
        BigInteger above = BigInteger.valueOf(p);
        BigInteger below = BigInteger.valueOf(q);
        List<Integer> row = new ArrayList<>();
        int last = 0;
        while (above.signum() > 0) {
            BigInteger least = below.add(above).subtract(BigInteger.ONE).divide(above);
            if (least.bitLength() > 30) return null;
            int next = Math.max(last + 1, least.intValue());
            if (odd && next % 2 == 0) next++;
            if (row.size() == 8 || next > 1000000) return null;
            row.add(next);
            above = above.multiply(BigInteger.valueOf(next)).subtract(below);
            below = below.multiply(BigInteger.valueOf(next));
            last = next;
        }
        return row;
    }

    int greedy(int way, int k) {
        if (way < 0 || way > 1 || k < -1) return BAD;
        List<Integer> row = greedyRow(p, q, way == 1);
        if (row == null) return NONE;
        if (k == -1) return row.size();
        return k < row.size() ? row.get(k) : NONE;
    }

    int sums(int n, int d) {
        if (n < 1 || n > 5 || d < 1 || d > 60) return BAD;
        return table.sums(p, q, n, d).size();
    }

    int sum(int n, int d, int k, int i) {
        if (n < 1 || n > 5 || d < 1 || d > 60 || k < 0 || i < 0) return BAD;
        List<int[]> all = table.sums(p, q, n, d);
        return k < all.size() && i < n ? all.get(k)[i] : NONE;
    }

    int fewest(int d) {
        return d < 1 || d > 60 ? BAD : table.fewest(p, q, d);
    }

    int bound(int n) {
        return n < 1 || n > 5 ? BAD : table.bound(p, q, n);
    }

    private static boolean split(int numerator, int identity, int n) {
        if (identity == 0) return n % numerator == 0;
        if (identity == 1) return (n + 1) % numerator == 0;
        if (identity == 2) return (n + 2) % numerator == 0 && n % 2 == 0;
        if (identity == 3) return (n + 1) % (numerator - 1) == 0;
        return n % (numerator - 1) == 0;
    }

    int holds(int numerator, int identity, int n) {
        if (numerator < 2 || numerator > 7 || identity < 0 || identity > 4 || n < 1 || n > 999) return BAD;
        return split(numerator, identity, n) ? 1 : 0;
    }

    int covered(int numerator, int m, int on) {
        if (numerator < 2 || numerator > 7 || m < 1 || m > 24 || on < 0 || on > 31) return BAD;
        int bits = 0;
        for (int identity = 0; identity < 5; identity++) {
            if ((on >> identity) % 2 == 0) continue;
            int missed = 0;
            for (int n = 1; n <= 1000; n++) {
                if (!split(numerator, identity, n)) missed |= 1 << n % m;
            }
            bits |= ~missed & ((1 << m) - 1);
        }
        return bits;
    }

    int open(int numerator, int on) {
        if (numerator < 2 || numerator > 7 || on < 0 || on > 31) return BAD;
        for (int n = 1; n <= 999; n++) {
            boolean some = false;
            for (int identity = 0; identity < 5; identity++) {
                some |= (on >> identity) % 2 == 1 && split(numerator, identity, n);
            }
            if (!some) return n;
        }
        return NONE;
    }

    int sees(int numerator, int n, int is) {
        if (numerator < 2 || numerator > 7 || n < 1 || n > 999 || is < 0 || is > 1) return BAD;
        if (seen.size() == 6) return FULL;
        seen.add(new int[] {numerator, n, is});
        return seen.size();
    }

    int forget() {
        int had = seen.size();
        seen.clear();
        return had;
    }

    private boolean fits(int identity) {
        for (int[] one : seen) {
            if (split(one[0], identity, one[1]) != (one[2] == 1)) return false;
        }
        return true;
    }

    int unseen() {
        int bits = 0;
        for (int identity = 0; identity < 5; identity++) bits += fits(identity) ? 1 << identity : 0;
        return bits;
    }

    int ask(int numerator) {
        if (numerator < 2 || numerator > 7) return BAD;
        int best = NONE;
        int least = 6;
        for (int n = 1; n <= 99; n++) {
            int yes = 0;
            int no = 0;
            for (int identity = 0; identity < 5; identity++) {
                if (!fits(identity)) continue;
                if (split(numerator, identity, n)) yes++;
                else no++;
            }
            if (yes + no < 2) return NONE;
            if (Math.max(yes, no) < least) {
                least = Math.max(yes, no);
                best = n;
            }
        }
        return best;
    }

    int keep(int image) {
        if (image < 0 || image > 1) return BAD;
        images.set(image, terms);
        return terms.size();
    }

    int back(int image) {
        if (image < 0 || image > 1) return BAD;
        if (images.get(image) == null) return STATE;
        terms = images.get(image);
        past.clear();
        return terms.size();
    }

    int count(int what) {
        switch (what) {
            case 0: return p;
            case 1: return q;
            case 2: return terms.size();
            case 3: return terms.isEmpty() ? NONE : terms.get(terms.size() - 1);
            case 4: return seen.size();
            case 5: return text.length();
            case 6: return past.size();
            default: return BAD;
        }
    }
}
