/** Counts the answers of a test and tells those that are not the ones that are due. */
final class Check {
    private static final int MOST_TOLD = 20;

    private int right = 0;
    private int wrong = 0;

    void due(String call, long want, long got) {
        if (got == want) {
            right++;
            return;
        }
        wrong++;
        if (wrong <= MOST_TOLD) {
            System.out.println(call + " answered " + got + ", due is " + want);
        }
    }

    boolean failed() {
        return wrong != 0;
    }

    void end(String name) {
        System.out.println(name + ": " + right + " answers right, " + wrong + " wrong");
        if (wrong != 0 || right == 0) {
            System.exit(1);
        }
    }
}
