/** The boundaries of what is done and of the sums (promises 5 to 14), each sentence of the document by itself. */
public final class SumBoundaryTest {
    private static final int BAD = -1, STATE = -2, NONE = -9;
    private static final Check CHECK = new Check();

    private static final String SIX = "tell p1 1;s3 4 6 10 12 15;";
    private static final String SEVEN = "tell p1 1;s3 4 9 10 12 15 18;";
    private static final String EIGHT = "tell p1 1;s3 5 9 10 12 15 18 20;";

    public static void main(String[] args) {
        greedyEnds();
        greedyToEightNumbers();
        greedyTo1000000();
        greedyArguments();
        sumsArguments();
        sumsWithinTheBound();
        sumsInOrder();
        sumArguments();
        fewestFrom1To5();
        fewestArguments();
        boundTo60();
        boundArguments();
        makesArguments();
        makesRefused();
        madeOfFewest();
        madeOfLeastBound();
        splitsArguments();
        splitsEvenAndByThree();
        splitsIntoAnotherTerm();
        splitsIntoLikeOnes();
        splitsToEightTerms();
        splitsTo1000000();
        joinsArguments();
        joinsToATerm();
        joinsToAnotherTerm();
        joinsGreatOnes();
        tenUndone();
        undoneToTheFirst();
        refusedIsNotUndone();
        termArguments();
        CHECK.end("SumBoundaryTest");
    }

    private static Run run(String... calls) {
        return new Run(CHECK, calls);
    }

    private static Run of(int p, int q) {
        return run("tell p" + p + " " + q + ";");
    }

    /** What a greedy way gives: the row, or nothing, if it does not come out. */
    private static void greedyRow(int p, int q, int way, int... row) {
        Run one = of(p, q).leaves(row.length == 0 ? NONE : row.length, "greedy " + way + " -1");
        for (int k = 0; k <= 9; k++) {
            one.is(k < row.length ? row[k] : NONE, "greedy " + way + " " + k);
        }
        if (row.length == 0) {
            one.leaves(STATE, "makes " + way).sum();
        } else {
            one.is(row.length, "makes " + way).sum(row);
        }
    }

    // "as long as something of THE FRACTION is left", "unlike those ahead, more than them", "no more than what is left"
    private static void greedyEnds() {
        greedyRow(1, 1, 0, 1);
        greedyRow(1, 1, 1, 1);
        greedyRow(1, 99, 0, 99);
        greedyRow(1, 99, 1, 99);
        greedyRow(2, 99, 0, 50, 4950);
        greedyRow(2, 99, 1, 51, 1683);
        greedyRow(2, 2, 0, 1);
        greedyRow(3, 2, 0, 1, 2);
        // What is left is 1 behind 1, and 1 by 3 behind 3: a like one may not come.
        greedyRow(2, 1, 0, 1, 2, 3, 6);
        greedyRow(2, 3, 1, 3, 5, 9, 45);
        greedyRow(2, 3, 0, 2, 6);
    }

    // "it does not come out, if a ninth number .. would come"
    private static void greedyToEightNumbers() {
        greedyRow(9, 5, 1, 1, 3, 5, 7, 9, 79, 24885);
        greedyRow(20, 21, 1, 3, 5, 7, 9, 11, 15, 135, 10395);
        greedyRow(28, 15, 1, 1, 3, 5, 7, 9, 13, 411, 112203);
        // Of 2 the ninth would be 721, of 99 by 50 it would be 2101.
        greedyRow(2, 1, 1);
        greedyRow(99, 50, 1);
        greedyRow(11, 6, 1);
    }

    // "or one above 1000000, would come"
    private static void greedyTo1000000() {
        greedyRow(5, 83, 0, 17, 706, 996166);
        greedyRow(88, 83, 0, 1, 17, 706, 996166);
        greedyRow(50, 69, 1, 3, 5, 7, 21, 1209, 973245);
        // 1007556, and 1007557 of the odd ones: no fraction comes nearer from above.
        greedyRow(29, 68, 0);
        greedyRow(29, 68, 1);
        greedyRow(5, 92, 0);
        greedyRow(5, 92, 1);
        // 1924379646225 and 1396792694910: far above an int.
        greedyRow(4, 97, 0);
        greedyRow(77, 41, 0);
        greedyRow(99, 50, 0, 1, 2, 3, 7, 263, 138075);
    }

    // "GREEDY (way = 0), ODD (1): how many terms (k = -1 ..), the k-th number (0 on"
    private static void greedyArguments() {
        Run one = of(2, 3).leaves(BAD, "greedy -1 0").leaves(BAD, "greedy 2 0").leaves(BAD, "greedy -1 -1");
        one.leaves(BAD, "greedy 2 -1").leaves(BAD, "greedy 0 -2").leaves(BAD, "greedy 1 -2");
        one.leaves(BAD, "greedy 0 -2147483648").leaves(BAD, "greedy 2147483647 0").leaves(BAD, "greedy -2147483648 0");
        one.leaves(2, "greedy 0 -1").leaves(2, "greedy 0 0").leaves(6, "greedy 0 1").leaves(NONE, "greedy 0 2");
        one.leaves(4, "greedy 1 -1").leaves(3, "greedy 1 0").leaves(45, "greedy 1 3").leaves(NONE, "greedy 1 4");
        one.leaves(NONE, "greedy 0 2147483647").leaves(NONE, "greedy 1 2147483647");
        // BAD is ahead of NONE where it does not come out.
        of(4, 97).leaves(NONE, "greedy 0 -1").leaves(NONE, "greedy 0 0").leaves(BAD, "greedy 0 -2").leaves(BAD, "greedy 2 0");
        // What it asks for is not THE SUM.
        run("tell p1 2;s3 6;").leaves(1, "greedy 0 -1").leaves(2, "greedy 0 0").leaves(NONE, "greedy 1 0").sum(3, 6);
    }

    // "SUMS of n (1 .. 5) within D (1 .. 60)"
    private static void sumsArguments() {
        Run one = of(1, 1).leaves(BAD, "sums 0 60").leaves(BAD, "sums 6 60").leaves(BAD, "sums -1 60");
        one.leaves(BAD, "sums 1 0").leaves(BAD, "sums 1 61").leaves(BAD, "sums 1 -1").leaves(BAD, "sums 0 0");
        one.leaves(BAD, "sums 2147483647 60").leaves(BAD, "sums -2147483648 60");
        one.leaves(BAD, "sums 1 2147483647").leaves(BAD, "sums 1 -2147483648");
        one.leaves(1, "sums 1 1").leaves(1, "sums 1 60").leaves(0, "sums 5 1").leaves(30, "sums 5 60");
        one.leaves(0, "sums 2 60").leaves(1, "sums 3 60").leaves(6, "sums 4 60");
    }

    // "none above D"
    private static void sumsWithinTheBound() {
        of(1, 1).is(0, "sums 3 5").is(1, "sums 3 6").is(1, "sums 3 7");
        of(1, 1).is(0, "sums 4 11").is(1, "sums 4 12").is(5, "sums 4 41").is(6, "sums 4 42");
        of(1, 2).is(0, "sums 1 1").is(1, "sums 1 2").is(1, "sums 1 3");
        of(1, 59).is(0, "sums 1 58").is(1, "sums 1 59").is(1, "sums 1 60");
        of(1, 60).is(0, "sums 1 59").is(1, "sums 1 60");
        of(1, 61).is(0, "sums 1 60");
        of(2, 45).is(0, "sums 2 59").is(1, "sums 2 60");
        of(53, 27).is(0, "sums 5 53").is(1, "sums 5 54").is(0, "sums 4 60");
        of(1, 3).is(73, "sums 5 59").is(97, "sums 5 60");
        of(5, 12).is(75, "sums 5 59").is(97, "sums 5 60");
        // Unlike numbers: 2 is not 1 and 1, 1 is not 2 and 2.
        of(2, 1).is(0, "sums 2 60").is(0, "sums 3 60").is(1, "sums 4 6").is(0, "sums 4 5");
        of(63, 32).is(0, "sums 5 60");
    }

    private static void rowOf(Run one, String call, int... numbers) {
        for (int i = 0; i < numbers.length; i++) {
            one.is(numbers[i], call + " " + i);
        }
        one.is(NONE, call + " " + numbers.length);
    }

    // "in order: by the first number, the lower first, then the second ..."
    private static void sumsInOrder() {
        Run one = of(1, 1);
        rowOf(one, "sum 4 60 0", 2, 3, 7, 42);
        rowOf(one, "sum 4 60 1", 2, 3, 8, 24);
        rowOf(one, "sum 4 60 2", 2, 3, 9, 18);
        rowOf(one, "sum 4 60 3", 2, 3, 10, 15);
        rowOf(one, "sum 4 60 4", 2, 4, 5, 20);
        rowOf(one, "sum 4 60 5", 2, 4, 6, 12);
        one.is(NONE, "sum 4 60 6 0");
        rowOf(one, "sum 4 42 0", 2, 3, 7, 42);
        rowOf(one, "sum 4 41 0", 2, 3, 8, 24);
        rowOf(one, "sum 4 20 1", 2, 3, 10, 15);
        rowOf(one, "sum 4 20 2", 2, 4, 5, 20);
        rowOf(one, "sum 4 19 2", 2, 4, 6, 12);
        one.is(NONE, "sum 4 19 3 0");
        one = of(1, 3);
        rowOf(one, "sum 5 60 0", 4, 40, 42, 56, 60);
        rowOf(one, "sum 5 60 95", 10, 12, 15, 20, 30);
        rowOf(one, "sum 5 60 96", 10, 12, 15, 21, 28);
        one.is(NONE, "sum 5 60 97 0");
        rowOf(one, "sum 5 59 72", 10, 12, 15, 21, 28);
        one.is(NONE, "sum 5 59 73 0");
    }

    // "The i-th number (0 on) of the k-th (0 on)"
    private static void sumArguments() {
        Run one = of(1, 2).leaves(BAD, "sum 0 60 0 0").leaves(BAD, "sum 6 60 0 0").leaves(BAD, "sum 2 0 0 0");
        one.leaves(BAD, "sum 2 61 0 0").leaves(BAD, "sum 2 60 -1 0").leaves(BAD, "sum 2 60 0 -1");
        one.leaves(BAD, "sum 2 60 9 -1").leaves(BAD, "sum 2 60 -1 9").leaves(BAD, "sum 0 61 -1 -1");
        one.leaves(BAD, "sum 2 60 -2147483648 0").leaves(BAD, "sum 2 60 0 -2147483648");
        one.leaves(3, "sum 2 60 0 0").leaves(6, "sum 2 60 0 1").leaves(NONE, "sum 2 60 0 2");
        one.leaves(NONE, "sum 2 60 1 0").leaves(NONE, "sum 2 60 1 2").leaves(NONE, "sum 2 60 2147483647 0");
        one.leaves(NONE, "sum 2 60 0 2147483647").leaves(NONE, "sum 2 5 0 0").leaves(3, "sum 2 6 0 0");
        one.leaves(2, "sum 1 60 0 0").leaves(NONE, "sum 1 60 0 1").leaves(NONE, "sum 1 1 0 0").leaves(2, "sum 1 2 0 0");
        of(1, 1).leaves(1, "sum 1 1 0 0").leaves(NONE, "sum 1 1 1 0").leaves(NONE, "sum 5 1 0 0");
    }

    // "the least n (1 .. 5) of which there is one; NONE"
    private static void fewestFrom1To5() {
        of(1, 1).is(1, "fewest 1").is(1, "fewest 60");
        of(1, 60).is(NONE, "fewest 59").is(1, "fewest 60");
        of(1, 61).is(NONE, "fewest 60");
        of(53, 27).is(NONE, "fewest 53").is(5, "fewest 54").is(5, "fewest 60");
        // 63 by 32 is 1, 2, 3, 12, 32, 48, and no five within 60.
        run("tell p63 32;s1 2 3 12 32 48;").is(NONE, "fewest 60").sum(1, 2, 3, 12, 32, 48);
        of(13, 12).is(NONE, "fewest 3").is(3, "fewest 4").is(3, "fewest 11").is(2, "fewest 12");
    }

    private static void fewestArguments() {
        Run one = of(1, 1).leaves(BAD, "fewest 0").leaves(BAD, "fewest 61").leaves(BAD, "fewest -1");
        one.leaves(BAD, "fewest 2147483647").leaves(BAD, "fewest -2147483648").leaves(1, "fewest 1").leaves(1, "fewest 60");
        of(2, 3).leaves(NONE, "fewest 5").leaves(2, "fewest 6").leaves(2, "fewest 7");
    }

    // "the least D (1 .. 60) within which there is a SUM of n; NONE"
    private static void boundTo60() {
        of(1, 1).is(1, "bound 1").is(NONE, "bound 2").is(6, "bound 3").is(12, "bound 4").is(15, "bound 5");
        of(1, 59).is(59, "bound 1");
        of(1, 60).is(60, "bound 1");
        of(1, 61).is(NONE, "bound 1");
        of(2, 45).is(60, "bound 2").is(NONE, "bound 1");
        of(1, 12).is(60, "bound 4").is(NONE, "bound 5");
        of(1, 9).is(60, "bound 5");
        of(63, 32).is(NONE, "bound 5");
    }

    private static void boundArguments() {
        Run one = of(1, 1).leaves(BAD, "bound 0").leaves(BAD, "bound 6").leaves(BAD, "bound -1");
        one.leaves(BAD, "bound 2147483647").leaves(BAD, "bound -2147483648");
        one.leaves(1, "bound 1").leaves(NONE, "bound 2").leaves(15, "bound 5");
    }

    // "MADE by a way: 0 .. 1 .. 2 .. 3"
    private static void makesArguments() {
        Run one = run("makes 0", "sees 2 2 1", "write p1 2;").leaves(BAD, "makes -1").leaves(BAD, "makes 4");
        one.leaves(BAD, "makes 2147483647").leaves(BAD, "makes -2147483648").is(2, "makes 0").is(4, "makes 1");
        one.is(2, "makes 2").is(2, "makes 3").is(5, "count 6");
    }

    // "STATE: it does not come out, there is none"
    private static void makesRefused() {
        run("tell p2 1;s1 2 3 6;", "keep 1").leaves(STATE, "makes 1").sum(1, 2, 3, 6).is(4, "makes 0");
        of(61, 60).is(2, "makes 2").sum(1, 60).is(4, "makes 3").sum(2, 4, 6, 10);
        of(1, 61).leaves(STATE, "makes 2").leaves(STATE, "makes 3").is(1, "makes 0").sum(61).is(1, "makes 1").sum(61);
        of(1, 60).leaves(STATE, "makes 1").is(1, "makes 0").is(1, "makes 2").is(1, "makes 3").sum(60).is(3, "count 6");
        Run one = run("tell p63 32;s1 2 3 12 32 48;", "splits 4 0", "write p1 2;");
        one.leaves(STATE, "makes 2").leaves(STATE, "makes 3").leaves(BAD, "makes 4").sum(1, 2, 3, 12, 33, 48, 1056);
        for (int way = 0; way < 4; way++) {
            of(4, 97).leaves(STATE, "makes " + way).sum().is(0, "count 6");
        }
    }

    // "the first SUM of FEWEST within 60"
    private static void madeOfFewest() {
        of(53, 27).is(5, "makes 2").sum(1, 2, 3, 9, 54);
        of(2, 45).is(2, "makes 2").sum(36, 60);
        of(13, 12).is(2, "makes 2").sum(1, 12);
        of(5, 12).is(2, "makes 2").sum(3, 12);
        of(2, 15).is(2, "makes 2").sum(9, 45);
        of(1, 1).is(1, "makes 2").sum(1);
    }

    // "the first SUM of the least n within the least BOUND of any n, of several such n the least"
    private static void madeOfLeastBound() {
        of(13, 12).is(3, "makes 3").sum(2, 3, 4);
        of(5, 12).is(2, "makes 3").sum(4, 6);
        // 8 by 7 is 1, 7 and 2, 3, 6, 7; 14 by 13 is a sum of two, four and five within 13.
        of(8, 7).is(7, "bound 2").is(7, "bound 4").is(2, "makes 3").sum(1, 7);
        of(14, 13).is(13, "bound 2").is(13, "bound 4").is(13, "bound 5").is(2, "makes 3").sum(1, 13);
        // 15 by 28: 3, 12, 14, 21 and 4, 6, 14, 21 are the least of four; there is one of five, too.
        of(15, 28).is(28, "bound 2").is(21, "bound 4").is(21, "bound 5").is(2, "sums 4 21").is(4, "makes 3")
            .sum(3, 12, 14, 21).is(2, "makes 2").sum(2, 28);
        // 29 by 28: five have the least bound, and there are two such sums.
        of(29, 28).is(21, "bound 5").is(2, "sums 5 21").is(2, "makes 2").sum(1, 28).is(5, "makes 3").sum(2, 3, 12, 14, 21);
        // Five, none of them small.
        of(18, 55).is(5, "makes 2").sum(5, 22, 30, 33, 55).is(5, "makes 3").sum(10, 11, 12, 33, 44);
        of(21, 55).is(3, "makes 2").sum(3, 33, 55).is(5, "makes 3").sum(4, 22, 30, 33, 44);
        of(2, 45).is(2, "makes 3").sum(36, 60);
        of(1, 60).is(1, "makes 3").sum(60);
    }

    // "the k-th term (0 on) by a RULE (0 to 3)"
    private static void splitsArguments() {
        Run one = run("tell p1 3;s4 12;", "keep 0", "write p1 2;").leaves(BAD, "splits -1 0").leaves(BAD, "splits 2 0");
        one.leaves(BAD, "splits 0 -1").leaves(BAD, "splits 0 4").leaves(BAD, "splits 1 4").leaves(BAD, "splits 8 0");
        one.leaves(BAD, "splits 2147483647 0").leaves(BAD, "splits -2147483648 0");
        one.leaves(BAD, "splits 0 2147483647").leaves(BAD, "splits 0 -2147483648").leaves(BAD, "splits 2 4");
        one.is(3, "splits 0 0").sum(5, 12, 20).is(0, "undo").is(4, "splits 1 3").sum(4, 24, 36, 72);
        run().leaves(BAD, "splits 0 0").leaves(BAD, "splits -1 0").leaves(BAD, "splits 0 4");
        run(EIGHT).leaves(BAD, "splits 8 0").leaves(BAD, "splits 7 4").leaves(STATE, "splits 7 3");
    }

    // "if d is even", "if 3 divides d"
    private static void splitsEvenAndByThree() {
        run("tell p1 1;s1;").leaves(STATE, "splits 0 1").leaves(STATE, "splits 0 2").is(3, "splits 0 3").sum(2, 3, 6);
        run("tell p1 2;s2;").leaves(STATE, "splits 0 2").is(2, "splits 0 1").sum(3, 6);
        run("tell p1 3;s3;").leaves(STATE, "splits 0 1").is(2, "splits 0 2").sum(4, 12);
        run("tell p1 4;s4;").leaves(STATE, "splits 0 2").is(2, "splits 0 1").sum(6, 12);
        run("tell p1 5;s5;").leaves(STATE, "splits 0 1").leaves(STATE, "splits 0 2").is(2, "splits 0 0").sum(6, 30);
        run("tell p1 6;s6;").is(2, "splits 0 1").sum(9, 18).is(0, "undo").is(2, "splits 0 2").sum(8, 24);
        run("tell p1 59;s59;").leaves(STATE, "splits 0 1").leaves(STATE, "splits 0 2").is(2, "splits 0 0").sum(60, 3540);
        run("tell p1 60;s60;").is(2, "splits 0 1").sum(90, 180).is(0, "undo").is(2, "splits 0 2").sum(80, 240);
    }

    // "None of the new ones may be another term of THE SUM"
    private static void splitsIntoAnotherTerm() {
        run("tell p5 6;s2 3;", "keep 0").leaves(STATE, "splits 0 0").leaves(STATE, "splits 0 1").is(4, "splits 0 3");
        run("tell p2 3;s2 6;", "keep 0").leaves(STATE, "splits 0 0").leaves(STATE, "splits 0 1").leaves(STATE, "splits 0 3");
        run("tell p3 4;s2 4;").leaves(STATE, "splits 0 3").is(3, "splits 0 0").sum(3, 4, 6);
        run("tell p7 12;s2 12;").leaves(STATE, "splits 0 3").is(3, "splits 0 1").sum(3, 6, 12);
        run("tell p7 12;s3 4;").leaves(STATE, "splits 0 0").leaves(STATE, "splits 0 2").is(4, "splits 0 3").sum(4, 6, 9, 18);
        run("tell p5 12;s3 12;").leaves(STATE, "splits 0 0").leaves(STATE, "splits 0 2").is(4, "splits 0 3").sum(6, 9, 12, 18);
        run("tell p8 15;s3 5;").is(3, "splits 0 2").sum(4, 5, 12);
        run("tell p3 2;s1 2;").leaves(STATE, "splits 0 3").leaves(STATE, "splits 0 0").is(3, "splits 1 0").sum(1, 3, 6);
        run("tell p4 3;s1 3;").leaves(STATE, "splits 0 3").is(3, "splits 1 0").sum(1, 4, 12);
        run("tell p7 6;s1 6;").leaves(STATE, "splits 0 3").is(3, "splits 1 0").sum(1, 7, 42);
        run("tell p5 4;s1 4;").is(4, "splits 0 3").sum(2, 3, 4, 6);
    }

    // "or like another new one (1 by RULE 0)"
    private static void splitsIntoLikeOnes() {
        run("tell p1 1;s1;", "keep 0", "write p1 2;").leaves(STATE, "splits 0 0").sum(1).is(0, "count 6");
        run("tell p4 3;s1 3;").leaves(STATE, "splits 0 0").sum(1, 3);
        run("tell p1 2;s2;").is(2, "splits 0 0").sum(3, 6);
    }

    // "THE SUM no longer than 8"
    private static void splitsToEightTerms() {
        run(EIGHT).leaves(STATE, "splits 7 0").leaves(STATE, "splits 7 1").leaves(STATE, "splits 6 2").leaves(STATE, "splits 7 3")
            .sum(3, 5, 9, 10, 12, 15, 18, 20);
        run(SEVEN).leaves(STATE, "splits 6 3").is(8, "splits 6 0").sum(3, 4, 9, 10, 12, 15, 19, 342);
        run(SEVEN).is(8, "splits 6 1").sum(3, 4, 9, 10, 12, 15, 27, 54).leaves(STATE, "splits 7 0").is(0, "undo");
        run(SEVEN).is(8, "splits 6 2").sum(3, 4, 9, 10, 12, 15, 24, 72);
        run(SIX).is(8, "splits 3 3").sum(3, 4, 6, 12, 15, 20, 30, 60).is(0, "undo");
        run(SIX).is(7, "splits 5 0").sum(3, 4, 6, 10, 12, 16, 240);
    }

    // "each is 1000000 at most": no split makes 1000000 itself; these are the nearest that a search met.
    private static void splitsTo1000000() {
        Run one = of(33, 74).is(3, "makes 0").sum(3, 9, 666).is(4, "split 666 1").is(5, "split 999 0");
        one.sum(3, 9, 1000, 1998, 999000);
        one = of(28, 83).is(2, "makes 0").is(3, "split 249 0").is(4, "split 250 1").is(5, "split 750 2");
        one.sum(3, 375, 1000, 3000, 62250).leaves(STATE, "split 1000 0").leaves(STATE, "split 62250 0");
        one = of(3, 62).is(2, "makes 0").is(3, "split 1302 2").is(4, "split 5208 2").is(5, "split 20832 2");
        one.is(6, "split 83328 2").is(7, "split 333312 1").sum(21, 1736, 6944, 27776, 111104, 499968, 999936);
        one.leaves(STATE, "splits 6 0").leaves(STATE, "splits 6 1").leaves(STATE, "splits 6 2").leaves(STATE, "splits 6 3");
        one.is(333312, "joins 5 6");
        one = of(19, 94).is(2, "makes 0").is(3, "split 470 0").is(4, "split 471 0").is(5, "split 222312 1");
        one.sum(5, 472, 221370, 333468, 666936).leaves(STATE, "split 333468 1").leaves(STATE, "split 666936 1");
        one = of(1, 62).is(1, "makes 0").is(2, "split 62 0").is(3, "split 3906 2").is(4, "split 15624 2");
        one.is(5, "split 62496 2").is(6, "split 249984 2").sum(63, 5208, 20832, 83328, 333312, 999936);
        one = of(11, 64).is(2, "makes 0").is(3, "split 192 0").is(4, "split 37056 1").is(5, "split 55584 1");
        one.leaves(STATE, "split 166752 3").is(6, "split 83376 1").leaves(STATE, "split 250128 2");
        one = of(17, 62).is(3, "makes 0").is(4, "split 2604 2").is(5, "split 10416 2").is(6, "split 41664 2");
        one.is(8, "split 166656 3").sum(4, 42, 3472, 13888, 55552, 333312, 499968, 999936);
        // 65536 times 65537 is 65536 again in an int.
        one = run("tell p1 48;s48;", "split 48 2", "split 192 2", "split 768 2", "split 3072 2", "split 12288 2", "split 49152 2");
        one.sum(64, 256, 1024, 4096, 16384, 65536, 196608).leaves(STATE, "split 65536 0").is(8, "split 16384 1");
    }

    // "BAD (one and itself, too)"
    private static void joinsArguments() {
        Run one = run("tell p1 2;s3 6;", "keep 0", "write p1 2;").leaves(BAD, "joins 0 0").leaves(BAD, "joins 1 1");
        one.leaves(BAD, "joins -1 0").leaves(BAD, "joins 0 -1").leaves(BAD, "joins 0 2").leaves(BAD, "joins 2 0");
        one.leaves(BAD, "joins 2 2").leaves(BAD, "joins -1 -1").leaves(BAD, "joins 2147483647 0");
        one.leaves(BAD, "joins 0 2147483647").leaves(BAD, "joins -2147483648 0").leaves(BAD, "joins 0 -2147483648");
        one.is(2, "joins 0 1").sum(2).leaves(BAD, "joins 0 0").leaves(BAD, "joins 0 1").leaves(BAD, "joins 1 0");
        one.is(0, "undo").is(2, "joins 1 0").sum(2);
        run().leaves(BAD, "joins 0 1").leaves(BAD, "joins 0 0");
        run(EIGHT).leaves(BAD, "joins 7 8").leaves(BAD, "joins 8 7").leaves(BAD, "joins 7 7").leaves(STATE, "joins 6 7");
    }

    // "if their sum is a term c"
    private static void joinsToATerm() {
        run("tell p5 6;s2 3;", "keep 0").leaves(STATE, "joins 0 1").leaves(STATE, "joins 1 0").sum(2, 3);
        run("tell p3 2;s1 2;").leaves(STATE, "joins 0 1").sum(1, 2);
        run("tell p1 2;s3 6;").is(2, "joins 0 1");
        run("tell p8 15;s3 5;").leaves(STATE, "joins 0 1");
        run("tell p10 21;s3 7;").leaves(STATE, "joins 0 1");
        run("tell p5 12;s4 6;").leaves(STATE, "joins 0 1");
        run("tell p1 3;s4 12;").is(3, "joins 0 1").sum(3);
        run("tell p1 4;s6 12;").is(4, "joins 1 0").sum(4);
        run("tell p1 24;s40 60;").is(24, "joins 0 1").sum(24);
        run(EIGHT).is(6, "joins 3 5").sum(3, 5, 6, 9, 12, 18, 20).is(1, "count 6");
        run(SIX).is(2, "joins 0 2").sum(2, 4, 10, 12, 15).is(6, "join 10 15").sum(2, 4, 6, 12);
    }

    // "(and that is in no other)"
    private static void joinsToAnotherTerm() {
        run("tell p1 1;s2 3 6;", "keep 0", "write p1 2;").leaves(STATE, "joins 1 2").leaves(STATE, "joins 2 1").sum(2, 3, 6);
        run("tell p3 2;s1 3 6;").is(2, "joins 1 2").sum(1, 2);
        run("tell p3 4;s3 4 6;").is(2, "joins 0 2").sum(2, 4);
        run("tell p2 3;s3 4 12;").leaves(STATE, "joins 1 2").leaves(STATE, "joins 0 1").sum(3, 4, 12);
        run("tell p1 1;s3 4 5 6 20;").leaves(STATE, "joins 2 4").is(2, "joins 0 3").sum(2, 4, 5, 20);
    }

    // The product of two may be far above an int.
    private static void joinsGreatOnes() {
        Run one = of(3, 62).is(2, "makes 0").is(3, "split 1302 2").is(4, "split 5208 2").is(5, "split 20832 2");
        one.is(6, "split 83328 2").is(7, "split 333312 1").leaves(STATE, "joins 4 6").leaves(STATE, "joins 4 5");
        one.is(333312, "join 499968 999936").is(83328, "join 111104 333312").is(20832, "join 27776 83328");
        one.is(5208, "join 6944 20832").is(1302, "join 1736 5208").sum(21, 1302);
        one = of(33, 74).is(3, "makes 0").is(4, "split 666 1").is(5, "split 999 0").is(999, "join 1000 999000");
        one.is(666, "join 999 1998").sum(3, 9, 666);
    }

    /** Changes of 1 by 48, each into another sum; they are told beside them. */
    private static final String[] CHANGES = {"split 48 2", "split 192 2", "split 768 2", "split 3072 2", "split 12288 2",
        "split 49152 2", "split 196608 2", "makes 0", "split 48 0", "split 49 0", "split 50 0", "join 51 2550"};
    private static final int[][] SUMS = {{48}, {64, 192}, {64, 256, 768}, {64, 256, 1024, 3072},
        {64, 256, 1024, 4096, 12288}, {64, 256, 1024, 4096, 16384, 49152}, {64, 256, 1024, 4096, 16384, 65536, 196608},
        {64, 256, 1024, 4096, 16384, 65536, 262144, 786432}, {48}, {49, 2352}, {50, 2352, 2450}, {51, 2352, 2450, 2550},
        {50, 2352, 2450}};

    // "(10 are known, older ones are lost)"
    private static void tenUndone() {
        for (int changes = 0; changes <= CHANGES.length; changes++) {
            Run one = run("tell p1 48;s48;");
            for (int i = 0; i < changes; i++) {
                one.times(1, CHANGES[i]).is(Math.min(10, i + 1), "count 6");
            }
            one.sum(SUMS[changes]);
            int known = Math.min(10, changes);
            for (int undone = 1; undone <= known; undone++) {
                one.is(known - undone, "undo").is(known - undone, "count 6").sum(SUMS[changes - undone]);
            }
            one.leaves(STATE, "undo").sum(SUMS[changes - known]);
        }
    }

    // "how many more may be. STATE: none"
    private static void undoneToTheFirst() {
        run().leaves(STATE, "undo").is(2, "makes 0").is(1, "count 6").is(0, "undo").sum().leaves(STATE, "undo");
        Run one = run("makes 0", "splits 1 1", "undo", "splits 1 2").is(2, "count 6").is(1, "undo").sum(2, 6);
        one.is(0, "undo").sum().leaves(STATE, "undo").is(2, "makes 0").is(1, "count 6");
        // Ten, two undone, three more: the oldest one is lost.
        one = run("tell p1 48;s48;").times(1, CHANGES[0]).times(1, CHANGES[1]).times(8, "makes 0").times(2, "undo");
        one.is(8, "count 6").times(3, "makes 0").is(10, "count 6").times(9, "undo").sum(64, 256, 768).is(0, "undo");
        one.sum(64, 192).leaves(STATE, "undo");
        // One that makes THE SUM as it was is one, too; undo() itself is none.
        run("makes 0", "makes 0").is(2, "count 6").is(1, "undo").sum(2, 6).is(0, "undo").sum();
        // An object's last calls answer as its first ones.
        run().times(255, "makes 0").times(240, "makes 1").is(10, "count 6").is(9, "undo").sum(3, 5, 9, 45);
    }

    // "that was not refused"
    private static void refusedIsNotUndone() {
        Run one = run("tell p1 1;s1;", "splits 0 3").is(1, "count 6").leaves(STATE, "splits 0 0").leaves(BAD, "splits 3 0");
        one.leaves(STATE, "joins 0 1").leaves(STATE, "joins 1 2").leaves(BAD, "joins 0 0").leaves(BAD, "makes 4");
        one.is(1, "count 6").is(0, "undo").sum(1).leaves(STATE, "undo");
        // Ten known stay the same ten behind a refused one.
        one = of(2, 1).times(1, "makes 2").times(10, "makes 0").is(10, "count 6").leaves(STATE, "makes 1").is(10, "count 6");
        one.leaves(STATE, "splits 0 0").leaves(STATE, "joins 0 1").leaves(BAD, "makes -1").times(10, "undo").sum(1, 2, 3, 6);
    }

    // "The k-th number of THE SUM (0 on); NONE. BAD."
    private static void termArguments() {
        run().leaves(NONE, "term 0").leaves(BAD, "term -1").leaves(NONE, "term 7").leaves(NONE, "term 8");
        run("tell p1 2;s2;").leaves(BAD, "term -1").leaves(2, "term 0").leaves(NONE, "term 1");
        Run one = run(EIGHT).leaves(3, "term 0").leaves(18, "term 6").leaves(20, "term 7").leaves(NONE, "term 8");
        one.leaves(NONE, "term 2147483647").leaves(BAD, "term -2147483648").leaves(BAD, "term -9");
        // What was there and is no more is not told.
        one.is(6, "joins 3 5").is(20, "term 6").is(NONE, "term 7");
    }
}
