import java.util.Random;

/** Long runs of calls on UnitSums and on the model: each answer must be the same, and so must all that can be looked at. */
public final class ModelTest {
    private static final int RUNS = 6000;
    private static final int CALLS = 470;

    private final Check check;
    private final Random random;
    private final Table table;
    private UnitSums real;
    private Model model;
    private int left;
    private int run;

    private ModelTest(Check check, Table table, long seed) {
        this.check = check;
        this.table = table;
        random = new Random(seed);
    }

    public static void main(String[] args) {
        Check check = new Check();
        Table table = new Table();
        for (int run = 0; run < RUNS && !check.failed(); run++) {
            new ModelTest(check, table, run).go(run);
        }
        check.end("ModelTest");
    }

    private void go(int number) {
        run = number;
        real = new UnitSums();
        model = new Model(table);
        left = CALLS;
        while (left > 0 && !check.failed()) {
            int turn = random.nextInt(20);
            if (turn == 0) tell();
            else if (turn < 9) change();
            else if (turn < 12) look();
            else if (turn < 14) seek();
            else if (turn < 16) classes();
            else if (turn < 18) witness();
            else if (turn < 19) lookAll();
            else image();
        }
    }

    private void due(String call, int want, int got) {
        left--;
        check.due("run " + run + ", " + left + " left: " + call, want, got);
    }

    private int about(int least, int most) {
        int dice = random.nextInt(30);
        if (dice == 0) return least - 1;
        if (dice == 1) return most + 1;
        if (dice == 2) return random.nextInt();
        return least + random.nextInt(most - least + 1);
    }

    private void tell() {
        StringBuilder text = new StringBuilder();
        int items = random.nextInt(8);
        int q = 1 + random.nextInt(random.nextBoolean() ? 99 : 12);
        int p = 1 + random.nextInt(Math.min(99, 2 * q));
        if (items > 0) gap(text).append('p').append(random.nextBoolean() ? " " : "").append(p).append(' ').append(q).append(';');
        if (items > 3) {
            gap(text).append('s');
            int[] made = random.nextBoolean() ? table.ofFewest(p, q) : table.ofLeastBound(p, q);
            int[] told = made == null || random.nextInt(6) == 0 ? new int[] {2, 3, 6} : made;
            for (int number : told) gap(text).append(' ').append(number);
            text.append(';');
        }
        gap(text);
        if (random.nextInt(3) == 0) spoil(text);
        for (int i = 0; i < text.length(); i++) {
            int letter = text.charAt(i);
            due("type(" + letter + ")", model.type(letter), real.type(letter));
        }
        due("fraction() of '" + text + "'", model.fraction(), real.fraction());
        if (random.nextInt(4) > 0) due("clear()", model.clear(), real.clear());
    }

    private StringBuilder gap(StringBuilder text) {
        while (random.nextInt(4) == 0) text.append(' ');
        return text;
    }

    private void spoil(StringBuilder text) {
        String letters = "pps;;  0123456789y";
        int at = random.nextInt(text.length() + 1);
        int dice = random.nextInt(3);
        if (dice == 0 || text.length() == 0) text.insert(at, letters.charAt(random.nextInt(letters.length())));
        else if (dice == 1) text.setLength(at);
        else text.setCharAt(at % text.length(), letters.charAt(random.nextInt(letters.length())));
    }

    private void change() {
        int dice = random.nextInt(12);
        if (dice < 3) {
            int way = about(0, 3);
            due("makes(" + way + ")", model.makes(way), real.makes(way));
        } else if (dice < 7) {
            int k = about(0, 3);
            int rule = about(0, 3);
            due("splits(" + k + ", " + rule + ")", model.splits(k, rule), real.splits(k, rule));
        } else if (dice < 10) {
            int j = about(0, 4);
            int k = about(0, 4);
            due("joins(" + j + ", " + k + ")", model.joins(j, k), real.joins(j, k));
        } else {
            due("undo()", model.undo(), real.undo());
        }
    }

    private void look() {
        int k = about(0, 8);
        due("term(" + k + ")", model.term(k), real.term(k));
        int what = about(0, 6);
        due("count(" + what + ")", model.count(what), real.count(what));
        int way = about(0, 1);
        k = about(-1, 8);
        due("greedy(" + way + ", " + k + ")", model.greedy(way, k), real.greedy(way, k));
        if (random.nextInt(10) == 0) {
            int letter = about(0, 255);
            due("type(" + letter + ")", model.type(letter), real.type(letter));
        }
    }

    private void lookAll() {
        for (int what = 0; what < 7; what++) due("count(" + what + ")", model.count(what), real.count(what));
        for (int k = 0; k < 9; k++) due("term(" + k + ")", model.term(k), real.term(k));
        due("unseen()", model.unseen(), real.unseen());
    }

    private void seek() {
        int n = about(1, 5);
        int d = about(1, 60);
        due("sums(" + n + ", " + d + ")", model.sums(n, d), real.sums(n, d));
        int k = random.nextBoolean() ? 0 : about(0, 9);
        int i = about(0, 5);
        due("sum(" + n + ", " + d + ", " + k + ", " + i + ")", model.sum(n, d, k, i), real.sum(n, d, k, i));
        due("fewest(" + d + ")", model.fewest(d), real.fewest(d));
        due("bound(" + n + ")", model.bound(n), real.bound(n));
    }

    private void classes() {
        int numerator = about(2, 7);
        int identity = about(0, 4);
        int n = about(1, 999);
        due("holds(" + numerator + ", " + identity + ", " + n + ")", model.holds(numerator, identity, n), real.holds(numerator, identity, n));
        int m = about(1, 24);
        int on = about(0, 31);
        due("covered(" + numerator + ", " + m + ", " + on + ")", model.covered(numerator, m, on), real.covered(numerator, m, on));
        due("open(" + numerator + ", " + on + ")", model.open(numerator, on), real.open(numerator, on));
    }

    private void witness() {
        int numerator = about(2, 7);
        int n = random.nextBoolean() ? about(1, 999) : about(1, 12);
        int is = about(0, 1);
        if (random.nextInt(6) == 0) due("forget()", model.forget(), real.forget());
        due("sees(" + numerator + ", " + n + ", " + is + ")", model.sees(numerator, n, is), real.sees(numerator, n, is));
        due("unseen()", model.unseen(), real.unseen());
        numerator = about(2, 7);
        due("ask(" + numerator + ")", model.ask(numerator), real.ask(numerator));
    }

    private void image() {
        int image = about(0, 1);
        if (random.nextBoolean()) due("keep(" + image + ")", model.keep(image), real.keep(image));
        else due("back(" + image + ")", model.back(image), real.back(image));
    }
}
