import java.math.BigInteger;

/** Every call of promises 15 to 17 and every question of promise 21, against the document's words taken one by one. */
public final class EveryClassTest {
    private static final Check CHECK = new Check();
    private static final int NONE = -9;
    /** Whatever holds comes again within 7 times 6 times 2 times 24. */
    private static final int FAR = 5000;

    public static void main(String[] args) {
        for (int numerator = 2; numerator <= 7; numerator++) {
            for (int identity = 0; identity < 5; identity++) holds(numerator, identity);
            for (int m = 1; m <= 24; m++) covered(numerator, m);
            for (int on = 0; on < 32; on++) CHECK.due("open", open(numerator, on), new UnitSums().open(numerator, on));
        }
        questions();
        CHECK.end("EveryClassTest");
    }

    /** The numbers of an identity's terms, by the document; null where it does not hold. */
    private static long[] terms(long numerator, int identity, long n) {
        long less = numerator - 1;
        switch (identity) {
            case 0: return n % numerator == 0 ? new long[] {n / numerator} : null;
            case 1: return (n + 1) % numerator == 0 ? new long[] {(n + 1) / numerator, n * ((n + 1) / numerator)} : null;
            case 2: return (n + 2) % numerator == 0 && n % 2 == 0
                ? new long[] {(n + 2) / numerator, n / 2 * ((n + 2) / numerator)} : null;
            case 3: return (n + 1) % less == 0 ? new long[] {n, (n + 1) / less, n * ((n + 1) / less)} : null;
            default: return n % less == 0 ? new long[] {n, n / less} : null;
        }
    }

    private static boolean adds(long numerator, long n, long[] terms) {
        BigInteger above = BigInteger.ZERO;
        BigInteger below = BigInteger.ONE;
        for (long term : terms) {
            above = above.multiply(BigInteger.valueOf(term)).add(below);
            below = below.multiply(BigInteger.valueOf(term));
        }
        return above.multiply(BigInteger.valueOf(n)).equals(below.multiply(BigInteger.valueOf(numerator)));
    }

    private static void holds(int numerator, int identity) {
        UnitSums x = null;
        for (int n = 1; n <= 999; n++) {
            if (n % 500 == 1) x = new UnitSums();
            long[] terms = terms(numerator, identity, n);
            String call = "holds(" + numerator + ", " + identity + ", " + n + ")";
            CHECK.due(call, terms == null ? 0 : 1, x.holds(numerator, identity, n));
            if (terms != null) CHECK.due(call + ": the terms are so much", 1, adds(numerator, n, terms) ? 1 : 0);
        }
    }

    private static void covered(int numerator, int m) {
        int[] all = new int[5];
        for (int identity = 0; identity < 5; identity++) {
            for (int rest = 0; rest < m; rest++) {
                boolean each = true;
                for (int n = rest == 0 ? m : rest; n <= FAR; n += m) each &= terms(numerator, identity, n) != null;
                if (each) all[identity] |= 1 << rest;
            }
        }
        UnitSums x = new UnitSums();
        for (int on = 0; on < 32; on++) {
            int want = 0;
            for (int identity = 0; identity < 5; identity++) want |= (on >> identity & 1) == 1 ? all[identity] : 0;
            CHECK.due("covered(" + numerator + ", " + m + ", " + on + ")", want, x.covered(numerator, m, on));
        }
    }

    private static int open(int numerator, int on) {
        for (int n = 1; n <= 999; n++) {
            if ((by(numerator, n) & on) == 0) return n;
        }
        return NONE;
    }

    private static int by(int numerator, int n) {
        int bits = 0;
        for (int identity = 0; identity < 5; identity++) bits |= terms(numerator, identity, n) == null ? 0 : 1 << identity;
        return bits;
    }

    /** Two that are seen lead to each set of identities that can be: for each the next number to ask. */
    private static void questions() {
        boolean[] met = new boolean[32];
        for (int first = 0; first < 6 * 24 * 2; first++) {
            for (int second = 0; second <= first; second++) {
                int bits = 31 & seenBy(first) & seenBy(second);
                if (met[bits]) continue;
                met[bits] = true;
                UnitSums x = new UnitSums();
                see(x, first);
                see(x, second);
                CHECK.due("unseen()", bits, x.unseen());
                for (int numerator = 2; numerator <= 7; numerator++) {
                    CHECK.due("of " + bits + " ask(" + numerator + ")", ask(numerator, bits), x.ask(numerator));
                }
            }
        }
        for (int bits = 0; bits < 32; bits++) CHECK.due("met " + bits, 1, met[bits] ? 1 : 0);
    }

    private static int seenBy(int code) {
        int bits = by(2 + code / 48, 1 + code / 2 % 24);
        return code % 2 == 1 ? bits : ~bits;
    }

    private static void see(UnitSums x, int code) {
        x.sees(2 + code / 48, 1 + code / 2 % 24, code % 2);
    }

    private static int ask(int numerator, int bits) {
        int all = Integer.bitCount(bits);
        if (all <= 1) return NONE;
        for (int greater = (all + 1) / 2; greater <= all; greater++) {
            for (int n = 1; n <= 99; n++) {
                int split = Integer.bitCount(bits & by(numerator, n));
                if (Math.max(split, all - split) == greater) return n;
            }
        }
        return NONE;
    }
}
