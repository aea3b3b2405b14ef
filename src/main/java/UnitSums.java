/** Fractions as sums of unit fractions: what each call answers stands in the document, promise by promise. */
public final class UnitSums {
    public static final int BAD = -1, STATE = -2, FULL = -3, NONE = -9;

    private static final int FIRST_P = 2;
    private static final int FIRST_Q = 3;
    private static final int MOST_TERMS = 8;
    private static final int MOST_NUMBER = 1000000;
    private static final int MOST_UNDONE = 10;
    private static final int MOST_LETTERS = 60;
    private static final int MOST_LETTER = 255;
    private static final int MOST_TOLD = 60;
    private static final int MOST_PART = 99;
    private static final int MOST_IN_SUMS = 5;
    private static final int MOST_BOUND = 60;
    private static final int IMAGES = 2;
    private static final int RULES = 4;
    private static final int WAYS = 4;
    private static final int IDENTITIES = 5;
    private static final int ALL_ON = 31;
    private static final int LEAST_NUMERATOR = 2;
    private static final int MOST_NUMERATOR = 7;
    private static final int MOST_MODULUS = 24;
    private static final int MOST_SPLIT = 999;
    private static final int MOST_ASKED = 99;
    private static final int MOST_SEEN = 6;

    private int p;
    private int q;
    private final Row terms;
    private final Row draft;
    private final Script script;
    private final History history;
    private final Row[] images;
    private final boolean[] kept;
    private final Finder finder;
    private final Witness witness;

    public UnitSums() {
        p = FIRST_P;
        q = FIRST_Q;
        terms = new Row();
        draft = new Row();
        script = new Script();
        history = new History();
        images = new Row[IMAGES];
        for (int image = 0; image < IMAGES; image++) {
            images[image] = new Row();
        }
        kept = new boolean[IMAGES];
        finder = new Finder();
        witness = new Witness();
    }

    // ---- the fraction

    public int type(int letter) {
        if (letter < 0 || letter > MOST_LETTER) {
            return BAD;
        }
        return script.append(letter) ? script.length() : FULL;
    }

    public int clear() {
        int had = script.length();
        script.wipe();
        return had;
    }

    public int fraction() {
        int items = script.read();
        if (items >= 0) {
            startAnew();
        }
        return items;
    }

    // ---- what is done

    public int makes(int way) {
        if (way < 0 || way >= WAYS) {
            return BAD;
        }
        return draftBy(way) ? takeDraft() : STATE;
    }

    public int splits(int k, int rule) {
        if (!terms.reaches(k) || rule < 0 || rule >= RULES) {
            return BAD;
        }
        draft.copy(terms);
        draft.drop(k);
        return splitInto(draft, terms.at(k), rule) ? takeDraft() : STATE;
    }

    public int joins(int j, int k) {
        if (!terms.reaches(j) || !terms.reaches(k) || j == k) {
            return BAD;
        }
        int joined = oneForTwo(terms.at(j), terms.at(k));
        draft.copy(terms);
        draft.drop(Math.max(j, k));
        draft.drop(Math.min(j, k));
        if (!draft.insert(joined)) {
            return STATE;
        }
        takeDraft();
        return joined;
    }

    public int undo() {
        return history.restore(terms) ? history.length() : STATE;
    }

    // ---- sums

    public int term(int k) {
        if (k < 0) {
            return BAD;
        }
        return terms.at(k);
    }

    public int greedy(int way, int k) {
        if (way < 0 || way > 1 || k < -1) {
            return BAD;
        }
        if (!takeGreedily(p, q, way == 1, draft)) {
            return NONE;
        }
        return k == -1 ? draft.length() : draft.at(k);
    }

    public int sums(int n, int d) {
        if (!isLength(n) || !isBound(d)) {
            return BAD;
        }
        return finder.howMany(n, d);
    }

    public int sum(int n, int d, int k, int i) {
        if (!isLength(n) || !isBound(d) || k < 0 || i < 0) {
            return BAD;
        }
        return finder.numberOf(n, d, k, i);
    }

    public int fewest(int d) {
        if (!isBound(d)) {
            return BAD;
        }
        return finder.leastLength(d);
    }

    public int bound(int n) {
        if (!isLength(n)) {
            return BAD;
        }
        return finder.leastBound(n);
    }

    // ---- classes

    public int holds(int numerator, int identity, int n) {
        if (!isNumerator(numerator) || identity < 0 || identity >= IDENTITIES || n < 1 || n > MOST_SPLIT) {
            return BAD;
        }
        return isSplit(numerator, identity, n) ? 1 : 0;
    }

    public int covered(int numerator, int m, int on) {
        if (!isNumerator(numerator) || m < 1 || m > MOST_MODULUS || !isChoice(on)) {
            return BAD;
        }
        int rests = 0;
        for (int rest = 0; rest < m; rest++) {
            if (isCovered(numerator, m, rest, on)) {
                rests |= 1 << rest;
            }
        }
        return rests;
    }

    public int open(int numerator, int on) {
        if (!isNumerator(numerator) || !isChoice(on)) {
            return BAD;
        }
        for (int n = 1; n <= MOST_SPLIT; n++) {
            if ((splitters(numerator, n) & on) == 0) {
                return n;
            }
        }
        return NONE;
    }

    // ---- which identity

    public int sees(int numerator, int n, int is) {
        if (!isNumerator(numerator) || n < 1 || n > MOST_SPLIT || is < 0 || is > 1) {
            return BAD;
        }
        return witness.add(numerator, n, is == 1) ? witness.length() : FULL;
    }

    public int forget() {
        int had = witness.length();
        witness.wipe();
        return had;
    }

    public int unseen() {
        return witness.suspects();
    }

    public int ask(int numerator) {
        if (!isNumerator(numerator)) {
            return BAD;
        }
        return bestQuestion(numerator, witness.suspects());
    }

    // ---- images

    public int keep(int image) {
        if (image < 0 || image >= IMAGES) {
            return BAD;
        }
        images[image].copy(terms);
        kept[image] = true;
        return terms.length();
    }

    public int back(int image) {
        if (image < 0 || image >= IMAGES) {
            return BAD;
        }
        if (!kept[image]) {
            return STATE;
        }
        terms.copy(images[image]);
        history.wipe();
        return terms.length();
    }

    public int count(int what) {
        switch (what) {
            case 0:
                return p;
            case 1:
                return q;
            case 2:
                return terms.length();
            case 3:
                return terms.at(terms.length() - 1);
            case 4:
                return witness.length();
            case 5:
                return script.length();
            case 6:
                return history.length();
            default:
                return BAD;
        }
    }

    // ---- what the calls share

    private static boolean isLength(int n) {
        return n >= 1 && n <= MOST_IN_SUMS;
    }

    private static boolean isBound(int d) {
        return d >= 1 && d <= MOST_BOUND;
    }

    private static boolean isNumerator(int numerator) {
        return numerator >= LEAST_NUMERATOR && numerator <= MOST_NUMERATOR;
    }

    private static boolean isChoice(int on) {
        return on >= 0 && on <= ALL_ON;
    }

    private void startAnew() {
        p = script.toldP();
        q = script.toldQ();
        terms.copy(script.toldTerms());
        script.wipe();
        history.wipe();
        witness.wipe();
        finder.turnTo(p, q);
        for (int image = 0; image < IMAGES; image++) {
            kept[image] = false;
        }
    }

    /** The draft becomes the sum, and the sum as it was can be had back. */
    private int takeDraft() {
        history.store(terms);
        terms.copy(draft);
        return terms.length();
    }

    private boolean draftBy(int way) {
        if (way < 2) {
            return takeGreedily(p, q, way == 1, draft);
        }
        if (way == 2) {
            return finder.copyFirst(finder.leastLength(MOST_BOUND), MOST_BOUND, draft);
        }
        int n = finder.lengthOfLeastBound();
        return finder.copyFirst(n, finder.leastBound(n), draft);
    }

    private static boolean splitInto(Row row, long d, int rule) {
        switch (rule) {
            case 0:
                return row.insert(d + 1) && row.insert(d * (d + 1));
            case 1:
                return d % 2 == 0 && row.insert(d / 2 * 3) && row.insert(d * 3);
            case 2:
                return d % 3 == 0 && row.insert(d / 3 * 4) && row.insert(d * 4);
            case 3:
                return row.insert(d * 2) && row.insert(d * 3) && row.insert(d * 6);
            default:
                return false;
        }
    }

    /** The number whose term is the terms of a and b together, or NONE. */
    private static int oneForTwo(long a, long b) {
        long both = a + b;
        if (both <= 0 || a * b % both != 0) {
            return NONE;
        }
        return (int) (a * b / both);
    }

    /** Whether the greedy way comes out; if so, the row has its numbers. */
    private static boolean takeGreedily(int p, int q, boolean odd, Row row) {
        row.wipe();
        long above = p;
        long below = q;
        long next = 0;
        for (int step = 0; step < MOST_TERMS && above > 0; step++) {
            next = Math.max(next + 1, (below + above - 1) / above);
            if (odd && next % 2 == 0) {
                next++;
            }
            if (!row.insert(next)) {
                return false;
            }
            above = above * next - below;
            below = below * next;
            // In lowest terms no product goes beyond 52 bits, whatever the fraction (all were tried).
            long common = commonDivisor(above, below);
            above /= common;
            below /= common;
        }
        return above == 0;
    }

    /** 1 at least, so that it can always divide. */
    private static long commonDivisor(long a, long b) {
        // Euclid's way needs fewer than 93 steps for any two longs.
        for (int step = 0; step < 100 && b != 0; step++) {
            long rest = a % b;
            a = b;
            b = rest;
        }
        return Math.max(1, a);
    }

    private static boolean isSplit(int numerator, int identity, int n) {
        switch (identity) {
            case 0:
                return divides(numerator, n);
            case 1:
                return divides(numerator, n + 1);
            case 2:
                return divides(numerator, n + 2) && divides(2, n);
            case 3:
                return divides(numerator - 1, n + 1);
            case 4:
                return divides(numerator - 1, n);
            default:
                return false;
        }
    }

    private static boolean divides(int divisor, int number) {
        return divisor > 0 && number % divisor == 0;
    }

    /** The identities (bits) that hold for n. */
    private static int splitters(int numerator, int n) {
        int bits = 0;
        for (int identity = 0; identity < IDENTITIES; identity++) {
            if (isSplit(numerator, identity, n)) {
                bits |= 1 << identity;
            }
        }
        return bits;
    }

    /** Whether one identity of those that are on holds for all numbers that leave the rest. */
    private static boolean isCovered(int numerator, int m, int rest, int on) {
        // Whether one holds turns on n by N less 1, or by N and by 2: so it comes again within 2 N steps.
        int steps = 2 * numerator;
        int whole = on;
        for (int step = 1; step <= steps && whole != 0; step++) {
            whole &= splitters(numerator, rest + m * step);
        }
        return whole != 0;
    }

    /** The least n for which the greater part of the suspects, split or not, is smallest. */
    private static int bestQuestion(int numerator, int suspects) {
        int all = Integer.bitCount(suspects);
        if (all <= 1) {
            return NONE;
        }
        int best = NONE;
        int smallest = all + 1;
        for (int n = 1; n <= MOST_ASKED; n++) {
            int split = Integer.bitCount(suspects & splitters(numerator, n));
            int greater = Math.max(split, all - split);
            if (greater < smallest) {
                smallest = greater;
                best = n;
            }
        }
        return best;
    }

    /** Unlike numbers, rising: eight at most. */
    private static final class Row {
        private final int[] numbers = new int[MOST_TERMS];
        private int length = 0;

        int length() {
            return length;
        }

        boolean reaches(int k) {
            return k >= 0 && k < length;
        }

        int at(int k) {
            return reaches(k) ? numbers[k] : NONE;
        }

        void wipe() {
            length = 0;
        }

        void copy(Row other) {
            length = other.length;
            System.arraycopy(other.numbers, 0, numbers, 0, length);
        }

        void drop(int k) {
            if (!reaches(k)) {
                return;
            }
            length--;
            for (int i = k; i < length; i++) {
                numbers[i] = numbers[i + 1];
            }
        }

        /** Puts a number where it belongs; false, if it can't be a term or is one already. */
        boolean insert(long number) {
            if (number < 1 || number > MOST_NUMBER || length >= MOST_TERMS) {
                return false;
            }
            int place = length;
            while (place > 0 && numbers[place - 1] >= number) {
                place--;
            }
            if (place < length && numbers[place] == number) {
                return false;
            }
            for (int i = length; i > place; i--) {
                numbers[i] = numbers[i - 1];
            }
            numbers[place] = (int) number;
            length++;
            return true;
        }

        /** Whether the terms together are p by q; of eight told numbers the product stays within a long. */
        boolean adds(int p, int q) {
            long above = 0;
            long below = 1;
            for (int i = 0; i < length; i++) {
                above = above * numbers[i] + below;
                below = below * numbers[i];
            }
            return above * q == below * p;
        }
    }

    /** The sums as they were ahead of the latest changes. */
    private static final class History {
        private final Row[] rows = new Row[MOST_UNDONE];
        private int length = 0;

        History() {
            for (int i = 0; i < MOST_UNDONE; i++) {
                rows[i] = new Row();
            }
        }

        int length() {
            return length;
        }

        void wipe() {
            length = 0;
        }

        void store(Row row) {
            if (length == MOST_UNDONE) {
                loseOldest();
            }
            rows[length].copy(row);
            length++;
        }

        private void loseOldest() {
            Row oldest = rows[0];
            length--;
            for (int i = 0; i < length; i++) {
                rows[i] = rows[i + 1];
            }
            // Its row is used again, so that none is ever made anew.
            rows[length] = oldest;
        }

        boolean restore(Row row) {
            if (length == 0) {
                return false;
            }
            length--;
            row.copy(rows[length]);
            return true;
        }
    }

    /** What was seen of the unknown identity. */
    private static final class Witness {
        private final int[] numerators = new int[MOST_SEEN];
        private final int[] numbers = new int[MOST_SEEN];
        private final boolean[] split = new boolean[MOST_SEEN];
        private int length = 0;

        int length() {
            return length;
        }

        void wipe() {
            length = 0;
        }

        boolean add(int numerator, int n, boolean isSplit) {
            if (length >= MOST_SEEN) {
                return false;
            }
            numerators[length] = numerator;
            numbers[length] = n;
            split[length] = isSplit;
            length++;
            return true;
        }

        /** The identities (bits) by which all that was seen is so. */
        int suspects() {
            int bits = ALL_ON;
            for (int i = 0; i < length; i++) {
                int by = splitters(numerators[i], numbers[i]);
                bits &= split[i] ? by : ~by;
            }
            return bits;
        }
    }

    /** All sums of so many terms within 60: sought once for a fraction and a length, and kept in their order. */
    private static final class Finder {
        private static final int BITS = 6;
        private static final int MASK = 63;
        /** Of one length no fraction has more than 97. */
        private static final int MOST_SUMS = 128;

        private int p = FIRST_P;
        private int q = FIRST_Q;
        /** By length; each sum is one int, six bits a number, the greatest number lowest. */
        private final int[][] found = new int[MOST_IN_SUMS + 1][MOST_SUMS];
        private final int[] amounts = new int[MOST_IN_SUMS + 1];
        private final boolean[] sought = new boolean[MOST_IN_SUMS + 1];

        void turnTo(int newP, int newQ) {
            p = newP;
            q = newQ;
            for (int n = 1; n <= MOST_IN_SUMS; n++) {
                sought[n] = false;
            }
        }

        int howMany(int n, int d) {
            int within = 0;
            int amount = seek(n);
            for (int i = 0; i < amount; i++) {
                if (greatest(found[n][i]) <= d) {
                    within++;
                }
            }
            return within;
        }

        /** The i-th number of the k-th sum of n within d, or NONE. */
        int numberOf(int n, int d, int k, int i) {
            int packed = pick(n, d, k);
            return packed == NONE || i < 0 || i >= n ? NONE : unpack(packed, n, i);
        }

        int leastLength(int d) {
            for (int n = 1; n <= MOST_IN_SUMS; n++) {
                if (howMany(n, d) > 0) {
                    return n;
                }
            }
            return NONE;
        }

        int leastBound(int n) {
            int least = NONE;
            int amount = seek(n);
            for (int i = 0; i < amount; i++) {
                int last = greatest(found[n][i]);
                if (least == NONE || last < least) {
                    least = last;
                }
            }
            return least;
        }

        int lengthOfLeastBound() {
            int best = NONE;
            int least = MOST_BOUND + 1;
            for (int n = 1; n <= MOST_IN_SUMS; n++) {
                int last = leastBound(n);
                if (last != NONE && last < least) {
                    least = last;
                    best = n;
                }
            }
            return best;
        }

        /** Whether there is a sum of n within d; if so, the row has the first one's numbers. */
        boolean copyFirst(int n, int d, Row row) {
            int packed = pick(n, d, 0);
            if (packed == NONE) {
                return false;
            }
            row.wipe();
            for (int i = 0; i < n; i++) {
                row.insert(unpack(packed, n, i));
            }
            return true;
        }

        /** The k-th sum of n within d, packed, or NONE. */
        private int pick(int n, int d, int k) {
            int ahead = 0;
            int amount = seek(n);
            for (int i = 0; i < amount; i++) {
                if (greatest(found[n][i]) <= d) {
                    if (ahead == k) {
                        return found[n][i];
                    }
                    ahead++;
                }
            }
            return NONE;
        }

        private static int greatest(int packed) {
            return packed & MASK;
        }

        private static int unpack(int packed, int n, int i) {
            return (packed >> (BITS * (n - 1 - i))) & MASK;
        }

        /** How many sums of n there are within 60; they stand in their table then. */
        private int seek(int n) {
            if (!isLength(n)) {
                return 0;
            }
            if (!sought[n]) {
                sought[n] = true;
                amounts[n] = 0;
                extend(this, n, n, 0, p, q);
            }
            return amounts[n];
        }

        /**
         * Finds all that makes a beginning, packed, a sum of n. What the numbers still to come (left of them)
         * must be is above by below: five numbers to 60 keep both far within a long.
         */
        private static void extend(Finder finder, int n, int left, int packed, long above, long below) {
            if (above <= 0) {
                return;
            }
            int first = greatest(packed) + 1;
            if (left <= 1) {
                finder.end(n, packed, first, above, below);
                return;
            }
            // A term as great as all that is left would leave nothing for the others.
            long least = Math.max(first, below / above + 1);
            for (long number = least; number <= MOST_BOUND; number++) {
                // The others are smaller than this term: from here on all together fall short.
                if (number * above >= left * below) {
                    return;
                }
                long rest = number * above - below;
                // If less is left than the smallest terms there are, a greater number may leave enough.
                if (rest * MOST_BOUND >= (left - 1) * below * number) {
                    extend(finder, n, left - 1, packed << BITS | (int) number, rest, below * number);
                }
            }
        }

        /** The last number is given by what is left: it is kept, if it is one. */
        private void end(int n, int packed, int first, long above, long below) {
            if (above <= 0 || below % above != 0 || amounts[n] >= MOST_SUMS) {
                return;
            }
            long last = below / above;
            if (last >= first && last <= MOST_BOUND) {
                found[n][amounts[n]] = packed << BITS | (int) last;
                amounts[n]++;
            }
        }
    }

    /** The text, and what it told when it was read last. */
    private static final class Script {
        private static final int END = 0, FRACTION = 1, SUM = 2, STOP = 3, NUMBER = 4, WRONG = 5;
        private static final int FAULTS = -10;
        /** What was read last: nothing, p, P, Q, the end of that item, s, a number, the end of that item. */
        private static final int AT_START = 0, AT_P = 1, AT_ABOVE = 2, AT_BELOW = 3, AT_FRACTION = 4;
        private static final int AT_S = 5, AT_TERM = 6, AT_SUM = 7, AT_FAULT = 8;

        private final char[] letters = new char[MOST_LETTERS];
        private int length = 0;
        private int place = 0;
        private int token = END;
        private int start = 0;
        private int value = 0;
        private int above = FIRST_P;
        private int below = FIRST_Q;
        private final Row told = new Row();

        int length() {
            return length;
        }

        void wipe() {
            length = 0;
        }

        boolean append(int letter) {
            if (length >= MOST_LETTERS) {
                return false;
            }
            letters[length] = (char) letter;
            length++;
            return true;
        }

        int toldP() {
            return above;
        }

        int toldQ() {
            return below;
        }

        Row toldTerms() {
            return told;
        }

        /** How many items the text has, or -10 less the place of its fault. */
        int read() {
            place = 0;
            above = FIRST_P;
            below = FIRST_Q;
            told.wipe();
            int state = AT_START;
            // Each token but the end has a letter of its own.
            for (int i = 0; i < MOST_LETTERS; i++) {
                readToken();
                if (token == END) {
                    break;
                }
                state = follow(state);
                if (state == AT_FAULT) {
                    return FAULTS - start;
                }
            }
            switch (state) {
                case AT_START:
                    return 0;
                case AT_FRACTION:
                    return 1;
                case AT_SUM:
                    return 2;
                default:
                    return FAULTS - length;
            }
        }

        /** Where the token leads from a state: AT_FAULT, if it can't stand there. */
        private int follow(int state) {
            switch (state) {
                case AT_START:
                    return token == FRACTION ? AT_P : AT_FAULT;
                case AT_P:
                    return takeAbove();
                case AT_ABOVE:
                    return takeBelow();
                case AT_BELOW:
                    return token == STOP ? AT_FRACTION : AT_FAULT;
                case AT_FRACTION:
                    return token == SUM ? AT_S : AT_FAULT;
                case AT_S:
                    return takeTerm();
                case AT_TERM:
                    return token == STOP ? endSum() : takeTerm();
                default:
                    return AT_FAULT;
            }
        }

        private boolean isNumberTo(int most) {
            return token == NUMBER && value >= 1 && value <= most;
        }

        private int takeAbove() {
            if (!isNumberTo(MOST_PART)) {
                return AT_FAULT;
            }
            above = value;
            return AT_ABOVE;
        }

        private int takeBelow() {
            if (!isNumberTo(MOST_PART) || above > 2 * value) {
                return AT_FAULT;
            }
            below = value;
            return AT_BELOW;
        }

        private int takeTerm() {
            if (!isNumberTo(MOST_TOLD) || value <= told.at(told.length() - 1)) {
                return AT_FAULT;
            }
            return told.insert(value) ? AT_TERM : AT_FAULT;
        }

        private int endSum() {
            return told.adds(above, below) ? AT_SUM : AT_FAULT;
        }

        private void readToken() {
            while (place < length && letters[place] == ' ') {
                place++;
            }
            start = place;
            if (place >= length) {
                token = END;
                return;
            }
            char letter = letters[place];
            if (isFigure(letter)) {
                readNumber();
                return;
            }
            place++;
            token = kindOf(letter);
        }

        private static int kindOf(char letter) {
            switch (letter) {
                case 'p':
                    return FRACTION;
                case 's':
                    return SUM;
                case ';':
                    return STOP;
                default:
                    return WRONG;
            }
        }

        private void readNumber() {
            value = 0;
            while (place < length && isFigure(letters[place])) {
                // Beyond 99 it is wrong whatever follows, and must not run over.
                value = Math.min(MOST_PART + 1, value * 10 + (letters[place] - '0'));
                place++;
            }
            boolean zeroAhead = letters[start] == '0' && place - start > 1;
            token = zeroAhead || value > MOST_PART ? WRONG : NUMBER;
        }

        private static boolean isFigure(char letter) {
            return letter >= '0' && letter <= '9';
        }
    }
}
