/** Every short text, and every short end behind many beginnings: what is told, or the fault's place, against the model. */
public final class EveryTextTest {
    private static final Check CHECK = new Check();
    private static final char[] LETTERS = "ps; 01269y".toCharArray();
    private static final String[] HEADS = {"p1", "p2 ", "p1 2", "p99 5", "p1 2;", "p2 3;s", "p1 2;s3", "p1 2;s3 6", "p1 2;s3 6;",
        "p2 1;s1 2 3 ", "p1 1;s3 4 9 10 12 15 1", "p1 1;s3 5 9 10 12 15 18 ", "p1 1;s3 5 9 10 12 15 18 20"};

    private final Model model = new Model(null);
    private UnitSums real = new UnitSums();
    private int calls = 0;

    public static void main(String[] args) {
        EveryTextTest test = new EveryTextTest();
        test.extend("", 5);
        for (String head : HEADS) test.extend(head, 4);
        for (int blanks = 40; blanks <= 55; blanks++) {
            test.extend("p1 2;" + " ".repeat(blanks), Math.min(2, 55 - blanks));
        }
        CHECK.end("EveryTextTest");
    }

    private void extend(String text, int more) {
        compare(text);
        if (more == 0) return;
        for (char letter : LETTERS) extend(text + letter, more - 1);
    }

    private void compare(String text) {
        calls += text.length() + 14;
        if (calls > 512) {
            real = new UnitSums();
            calls = text.length() + 14;
        }
        model.clear();
        real.clear();
        for (int i = 0; i < text.length(); i++) {
            model.type(text.charAt(i));
            real.type(text.charAt(i));
        }
        int want = model.fraction();
        CHECK.due("fraction() of '" + text + "'", want, real.fraction());
        CHECK.due("count(5) behind '" + text + "'", want < 0 ? text.length() : 0, real.count(5));
        if (want < 0) return;
        for (int what = 0; what <= 2; what++) {
            CHECK.due("count(" + what + ") behind '" + text + "'", model.count(what), real.count(what));
        }
        for (int k = 0; k < model.count(2); k++) {
            CHECK.due("term(" + k + ") behind '" + text + "'", model.term(k), real.term(k));
        }
    }
}
