/**
 * The boundaries of images and counts (promises 22 to 24), and "Refused, and nothing changes, the first of these: BAD ..,
 * STATE .., FULL" for every call, on objects that hold much and little.
 */
public final class StateBoundaryTest {
    private static final int BAD = -1, STATE = -2, FULL = -3, NONE = -9;
    private static final Check CHECK = new Check();

    public static void main(String[] args) {
        imageArguments();
        noneKept();
        keptAndBack();
        nothingElseIsKept();
        nothingUndoneBehindBack();
        imagesStay();
        counts();
        countArguments();
        countsAtTheirMost();
        everyBadCall();
        badIsFirst();
        everyAskingCall();
        theLastCalls();
        CHECK.end("StateBoundaryTest");
    }

    private static Run run(String... calls) {
        return new Run(CHECK, calls);
    }

    private static Run busy() {
        return run("tell p5 6;s2 3;", "keep 0", "splits 1 0", "keep 1", "splits 2 1", "makes 2", "sees 4 12 1", "sees 5 5 0",
            "write p1 2;s3 6;");
    }

    /** All is at its most: eight terms, ten that can be undone, six seen, sixty letters. */
    private static Run full() {
        Run one = run("tell p1 1;s3 4 9 10 12 15 18;", "keep 0", "splits 6 0", "keep 1");
        for (int i = 0; i < 5; i++) {
            one.times(1, "join 19 342").times(1, "split 18 0");
        }
        return one.times(6, "sees 4 12 1").times(1, "write p1 2;s3 6;" + " ".repeat(50));
    }

    // "IMAGES 0, 1"
    private static void imageArguments() {
        for (int image : new int[] {Integer.MIN_VALUE, -1, 2, 3, Integer.MAX_VALUE}) {
            busy().leaves(BAD, "keep " + image).leaves(BAD, "back " + image).sum(2, 3);
            run().leaves(BAD, "keep " + image).leaves(BAD, "back " + image);
        }
        busy().is(2, "keep 0").is(2, "keep 1").is(2, "back 0").is(2, "back 1");
    }

    // "STATE: none was kept"
    private static void noneKept() {
        run("makes 0", "write p1 2;").leaves(STATE, "back 0").leaves(STATE, "back 1").is(2, "keep 0").leaves(STATE, "back 1");
        run("makes 0", "write p1 2;").is(2, "keep 1").leaves(STATE, "back 0").is(2, "back 1");
        // An empty sum that was kept is one; gone is gone, though nothing was told.
        run().is(0, "keep 0").leaves(0, "back 0").leaves(STATE, "back 1").is(0, "fraction").leaves(STATE, "back 0");
        // A fault leaves them.
        run("makes 0", "keep 0", "write p").is(-11, "fraction").is(2, "back 0");
    }

    // "how many terms": from none to eight.
    private static void keptAndBack() {
        run().is(0, "keep 0").is(2, "makes 0").is(2, "keep 1").is(0, "back 0").sum().is(2, "back 1").sum(2, 6);
        Run one = run("tell p1 1;s3 5 9 10 12 15 18 20;").is(8, "keep 1").is(1, "makes 0").sum(1).is(8, "back 1");
        one.sum(3, 5, 9, 10, 12, 15, 18, 20).is(1, "makes 0").is(1, "keep 1").is(0, "undo").is(8, "count 2");
    }

    // "keep THE SUM; nothing else"
    private static void nothingElseIsKept() {
        Run one = run("tell p5 6;s2 3;", "keep 0", "splits 1 0", "sees 4 12 1", "write p1 2;").is(2, "back 0").sum(2, 3);
        one.is(1, "count 4").is(17, "unseen").is(5, "count 5").is(5, "count 0").is(6, "count 1").is(1, "fraction");
        // keep() changes nothing but the image.
        busy().is(2, "keep 0").is(3, "count 6").is(2, "undo").sum(2, 4, 18, 36);
    }

    // "(nothing can be UNDONE behind back())"
    private static void nothingUndoneBehindBack() {
        busy().is(3, "count 6").is(2, "back 0").is(0, "count 6").leaves(STATE, "undo").sum(2, 3);
        busy().is(3, "back 1").leaves(STATE, "undo").is(2, "makes 0").is(1, "count 6").is(0, "undo").sum(2, 4, 12);
        full().is(7, "back 0").is(0, "count 6").leaves(STATE, "undo");
        // Not behind one that was refused.
        busy().leaves(BAD, "back 2").is(2, "undo");
        run("makes 0").leaves(STATE, "back 0").is(0, "undo");
    }

    // An image is as it was kept, until it is kept anew.
    private static void imagesStay() {
        Run one = busy().is(2, "back 0").is(3, "splits 1 0").is(2, "back 0").sum(2, 3);
        one.is(3, "back 1").sum(2, 4, 12).is(3, "keep 0").is(2, "makes 0").is(3, "back 0").sum(2, 4, 12);
        run("makes 0", "keep 0").is(0, "undo").is(2, "back 0").sum(2, 6);
    }

    // "0 P, 1 Q, 2 terms of THE SUM, 3 its greatest number (NONE: it is empty), 4 SEEN, 5 letters of THE TEXT, 6 ..."
    private static void counts() {
        busy().is(5, "count 0").is(6, "count 1").is(2, "count 2").is(3, "count 3").is(2, "count 4").is(10, "count 5")
            .is(3, "count 6");
        run().is(0, "count 2").is(NONE, "count 3").is(2, "makes 0").is(6, "count 3").is(0, "undo").is(NONE, "count 3");
        run("tell p1 1;s1;").is(1, "count 3");
        run("tell p1 60;s60;").is(60, "count 3").is(2, "splits 0 0").is(3660, "count 3");
    }

    private static void countArguments() {
        for (int what : new int[] {Integer.MIN_VALUE, -1, 7, 8, Integer.MAX_VALUE}) {
            busy().leaves(BAD, "count " + what);
            run().leaves(BAD, "count " + what);
        }
        for (int what = 0; what <= 6; what++) {
            busy().leaves(new int[] {5, 6, 2, 3, 2, 10, 3}[what], "count " + what);
        }
    }

    private static void countsAtTheirMost() {
        run("tell p99 99;").is(99, "count 0").is(99, "count 1");
        run("tell p1 1;s3 5 9 10 12 15 18 20;").is(8, "count 2").is(20, "count 3");
        full().sum(3, 4, 9, 10, 12, 15, 19, 342).is(6, "count 4").is(60, "count 5").is(10, "count 6");
    }

    private static final String[] BAD_CALLS = {"type -1", "type 256", "makes -1", "makes 4", "splits -1 0", "splits 8 0",
        "splits 0 -1", "splits 0 4", "joins -1 0", "joins 0 -1", "joins 8 0", "joins 0 8", "joins 0 0", "term -1",
        "greedy -1 0", "greedy 2 0", "greedy 0 -2", "sums 0 1", "sums 6 1", "sums 1 0", "sums 1 61", "sum 0 1 0 0",
        "sum 6 1 0 0", "sum 1 0 0 0", "sum 1 61 0 0", "sum 1 1 -1 0", "sum 1 1 0 -1", "fewest 0", "fewest 61", "bound 0",
        "bound 6", "holds 1 0 1", "holds 8 0 1", "holds 2 -1 1", "holds 2 5 1", "holds 2 0 0", "holds 2 0 1000",
        "covered 1 1 0", "covered 8 1 0", "covered 2 0 0", "covered 2 25 0", "covered 2 1 -1", "covered 2 1 32",
        "open 1 0", "open 8 0", "open 2 -1", "open 2 32", "sees 1 1 0", "sees 8 1 0", "sees 2 0 0", "sees 2 1000 0",
        "sees 2 1 -1", "sees 2 1 2", "ask 1", "ask 8", "keep -1", "keep 2", "back -1", "back 2", "count -1", "count 7"};

    // "BAD (a number is not as told, or there is no such thing)"
    private static void everyBadCall() {
        for (String call : BAD_CALLS) {
            busy().leaves(BAD, call);
            full().leaves(BAD, call);
            run().leaves(BAD, call);
        }
    }

    // "the first of these: BAD .., STATE (as told), FULL"
    private static void badIsFirst() {
        full().leaves(FULL, "type 0").leaves(BAD, "type 256").leaves(FULL, "type 255").leaves(BAD, "type -1");
        full().leaves(FULL, "sees 2 1 0").leaves(BAD, "sees 2 1 2").leaves(FULL, "sees 7 999 1").leaves(BAD, "sees 7 1000 1");
        run("tell p4 97;").leaves(STATE, "makes 0").leaves(BAD, "makes 4").leaves(STATE, "makes 3").leaves(BAD, "makes -1");
        run("tell p1 1;s1;").leaves(STATE, "splits 0 0").leaves(BAD, "splits 1 0").leaves(BAD, "splits 0 4");
        run("tell p5 6;s2 3;").leaves(STATE, "joins 0 1").leaves(BAD, "joins 0 0").leaves(BAD, "joins 1 2");
        run().leaves(STATE, "back 1").leaves(BAD, "back 2").leaves(STATE, "back 0").leaves(BAD, "back -1");
    }

    // Nothing is changed by a call that only asks.
    private static void everyAskingCall() {
        busy().leaves(2, "greedy 0 -1").leaves(3, "greedy 0 1").leaves(1, "sums 2 60").leaves(2, "sum 2 60 0 0");
        busy().leaves(3, "sum 2 60 0 1").leaves(2, "fewest 60").leaves(3, "bound 2").leaves(12, "bound 3").leaves(2, "term 0");
        busy().leaves(1, "holds 4 0 12").leaves(1, "covered 2 2 1").leaves(1, "open 2 1").leaves(16, "unseen");
        busy().leaves(NONE, "ask 2").leaves(3, "count 6");
        full().leaves(1, "greedy 0 -1").leaves(1, "greedy 1 0").leaves(30, "sums 5 60").leaves(2, "sum 5 60 0 0");
        full().leaves(1, "fewest 60").leaves(15, "bound 5").leaves(17, "unseen").leaves(3, "ask 4").leaves(342, "term 7");
    }

    // "at most 512 calls": the last of them answer as the first.
    private static void theLastCalls() {
        run().times(510, "makes 0").is(10, "count 6").is(9, "undo");
        run().times(255, "keep 0").times(255, "back 0").is(0, "count 2").is(STATE, "undo");
    }
}
