import java.util.ArrayList;
import java.util.List;

/**
 * A new object and the calls made on it, each told by a text: "splits 1 0"; "write p1 2;" types a text, "tell p1 2;"
 * reads it, too, "split 6 0" splits the term 6 wherever it stands.
 */
final class Run {
    private final Check check;
    private final List<String> made = new ArrayList<>();
    private final UnitSums x = new UnitSums();

    /** The calls ahead must not be refused. */
    Run(Check check, String... calls) {
        this.check = check;
        for (String call : calls) {
            due("not refused", 1, make(call) >= 0 ? 1 : 0);
        }
    }

    /** A call that answers so. */
    Run is(int want, String call) {
        due("", want, make(call));
        return this;
    }

    /** A call that answers so and changes nothing: what can be had from the object is the same with it and without it. */
    Run leaves(int want, String call) {
        UnitSums without = replayed();
        UnitSums with = replayed();
        answer(with, call);
        String due = traces(without);
        String got = traces(with);
        is(want, call);
        if (!due.equals(got)) {
            System.out.println("as it was:  " + due + "\nas it is:   " + got);
        }
        due("changes nothing", 1, due.equals(got) ? 1 : 0);
        return this;
    }

    /** THE SUM is just this. */
    Run sum(int... numbers) {
        is(numbers.length, "count 2");
        for (int k = 0; k < numbers.length; k++) {
            is(numbers[k], "term " + k);
        }
        is(UnitSums.NONE, "term " + numbers.length);
        return is(numbers.length == 0 ? UnitSums.NONE : numbers[numbers.length - 1], "count 3");
    }

    /** The same call so many times, each of which must not be refused. */
    Run times(int times, String call) {
        for (int i = 0; i < times; i++) {
            due("not refused", 1, make(call) >= 0 ? 1 : 0);
        }
        return this;
    }

    private int make(String call) {
        made.add(call);
        return answer(x, call);
    }

    private void due(String what, int want, int got) {
        check.due(made + " " + what, want, got);
    }

    private UnitSums replayed() {
        UnitSums other = new UnitSums();
        for (String call : made) {
            answer(other, call);
        }
        return other;
    }

    /** All that later calls can tell of an object; it is used up by this. */
    private static String traces(UnitSums x) {
        StringBuilder all = new StringBuilder();
        for (int what = 0; what <= 6; what++) all.append(x.count(what)).append(' ');
        all.append("unseen ").append(x.unseen()).append(" ask ");
        for (int numerator = 2; numerator <= 7; numerator++) all.append(x.ask(numerator)).append(' ');
        for (int n = 1; n <= 5; n++) all.append(x.sums(n, 60)).append(' ');
        all.append(terms(x));
        for (int undone = 0; undone <= 10; undone++) all.append("undo ").append(x.undo()).append(terms(x));
        for (int image = 0; image <= 1; image++) all.append("back ").append(x.back(image)).append(terms(x));
        all.append("text ").append(x.fraction()).append(terms(x));
        return all.append(x.count(0)).append(' ').append(x.count(1)).append(' ').append(x.clear()).toString();
    }

    private static String terms(UnitSums x) {
        StringBuilder all = new StringBuilder("(");
        for (int k = 0; k < 8 && x.term(k) > 0; k++) all.append(x.term(k)).append(' ');
        return all.append(") ").toString();
    }

    private static int answer(UnitSums x, String call) {
        if (call.startsWith("write ")) return write(x, call.substring(6));
        if (call.startsWith("tell ")) {
            x.clear();
            write(x, call.substring(5));
            return x.fraction();
        }
        String[] words = call.split(" ");
        int[] a = new int[4];
        for (int i = 1; i < words.length; i++) a[i - 1] = Integer.parseInt(words[i]);
        switch (words[0]) {
            case "type": return x.type(a[0]);
            case "clear": return x.clear();
            case "fraction": return x.fraction();
            case "makes": return x.makes(a[0]);
            case "splits": return x.splits(a[0], a[1]);
            case "split": return x.splits(place(x, a[0]), a[1]);
            case "joins": return x.joins(a[0], a[1]);
            case "join": return x.joins(place(x, a[0]), place(x, a[1]));
            case "undo": return x.undo();
            case "term": return x.term(a[0]);
            case "greedy": return x.greedy(a[0], a[1]);
            case "sums": return x.sums(a[0], a[1]);
            case "sum": return x.sum(a[0], a[1], a[2], a[3]);
            case "fewest": return x.fewest(a[0]);
            case "bound": return x.bound(a[0]);
            case "holds": return x.holds(a[0], a[1], a[2]);
            case "covered": return x.covered(a[0], a[1], a[2]);
            case "open": return x.open(a[0], a[1]);
            case "sees": return x.sees(a[0], a[1], a[2]);
            case "forget": return x.forget();
            case "unseen": return x.unseen();
            case "ask": return x.ask(a[0]);
            case "keep": return x.keep(a[0]);
            case "back": return x.back(a[0]);
            case "count": return x.count(a[0]);
            default: throw new IllegalArgumentException(call);
        }
    }

    private static int write(UnitSums x, String text) {
        int letters = x.count(5);
        for (int i = 0; i < text.length(); i++) {
            letters = x.type(text.charAt(i));
        }
        return letters;
    }

    /** Where a term stands; the test is wrong, if it is not there. */
    private static int place(UnitSums x, int number) {
        for (int k = 0; k < 8; k++) {
            if (x.term(k) == number) return k;
        }
        throw new IllegalArgumentException("no term " + number);
    }
}
