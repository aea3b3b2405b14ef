/** Each promise by itself: ordinary calls, the edges that the document names, wrong inputs; due answers by hand. */
public final class PromiseTest {
    private static final int BAD = -1, STATE = -2, FULL = -3, NONE = -9;
    private static final Check CHECK = new Check();

    public static void main(String[] args) {
        aNewObject();
        type();
        clear();
        fraction();
        fractionFaults();
        fractionTellsAllAnew();
        makes();
        splits();
        splitsRefused();
        joins();
        undo();
        term();
        greedy();
        sums();
        sum();
        fewest();
        bound();
        holds();
        covered();
        open();
        sees();
        forget();
        unseen();
        ask();
        keepAndBack();
        count();
        extremes();
        CHECK.end("PromiseTest");
    }

    private static void due(String call, int want, int got) {
        CHECK.due(call, want, got);
    }

    private static void write(UnitSums x, String text) {
        for (int i = 0; i < text.length(); i++) {
            x.type(text.charAt(i));
        }
    }

    private static int tell(UnitSums x, String text) {
        x.clear();
        write(x, text);
        return x.fraction();
    }

    private static UnitSums told(String text) {
        UnitSums x = new UnitSums();
        due("fraction() of '" + text + "'", text.indexOf('s') < 0 ? 1 : 2, tell(x, text));
        return x;
    }

    private static void terms(String where, UnitSums x, int... want) {
        due(where + ": count(2)", want.length, x.count(2));
        for (int k = 0; k < want.length; k++) {
            due(where + ": term(" + k + ")", want[k], x.term(k));
        }
        due(where + ": term behind the last", NONE, x.term(want.length));
    }

    // Promise 1
    private static void aNewObject() {
        UnitSums x = new UnitSums();
        int[] want = {2, 3, 0, NONE, 0, 0, 0};
        for (int what = 0; what < want.length; what++) {
            due("new: count(" + what + ")", want[what], x.count(what));
        }
        due("new: term(0)", NONE, x.term(0));
        due("new: undo()", STATE, x.undo());
        due("new: back(0)", STATE, x.back(0));
        due("new: back(1)", STATE, x.back(1));
        due("new: unseen()", 31, x.unseen());
        due("new: fraction()", 0, x.fraction());
        UnitSums other = new UnitSums();
        other.makes(0);
        due("another object's sum", 0, x.count(2));
    }

    // Promise 2
    private static void type() {
        UnitSums x = new UnitSums();
        due("type(0)", 1, x.type(0));
        due("type(255)", 2, x.type(255));
        due("type(-1)", BAD, x.type(-1));
        due("type(256)", BAD, x.type(256));
        due("count(5) behind BAD", 2, x.count(5));
        for (int letters = 3; letters <= 60; letters++) {
            due("type(32)", letters, x.type(32));
        }
        due("type at 60", FULL, x.type(32));
        due("type at 60, BAD first", BAD, x.type(256));
        due("count(5) at 60", 60, x.count(5));
    }

    // Promise 3
    private static void clear() {
        UnitSums x = new UnitSums();
        due("clear() of none", 0, x.clear());
        write(x, "p 1");
        due("clear()", 3, x.clear());
        due("clear() again", 0, x.clear());
        due("type behind clear()", 1, x.type('p'));
        x.clear();
        x.makes(0);
        x.clear();
        due("the sum stays", 2, x.count(2));
    }

    // Promise 4
    private static void fraction() {
        UnitSums x = new UnitSums();
        due("no items", 0, tell(x, ""));
        due("blanks alone", 0, tell(x, "   "));
        due("one item", 1, tell(x, "p 4 97;"));
        due("P", 4, x.count(0));
        due("Q", 97, x.count(1));
        due("the text is empty then", 0, x.count(5));
        due("no items: 2 by 3", 0, tell(x, " "));
        due("P at first", 2, x.count(0));
        due("Q at first", 3, x.count(1));
        due("two items", 2, tell(x, "p 1 1; s 2 3 6;"));
        terms("told", x, 2, 3, 6);
        due("no blanks", 2, tell(x, "p1 1;s2 3 6;"));
        due("many blanks", 2, tell(x, "  p  1   1  ;  s  2  3   6  ;  "));
        due("not in lowest terms", 2, tell(x, "p 2 4;s3 6;"));
        due("P as told", 2, x.count(0));
        due("Q as told", 4, x.count(1));
        due("2", 1, tell(x, "p 2 1;"));
        due("99 by 99", 1, tell(x, "p99 99;"));
        due("99 by 50", 1, tell(x, "p99 50;"));
        due("1 by 99", 1, tell(x, "p1 99;"));
        due("a number of 60", 2, tell(x, "p1 60;s60;"));
        due("eight numbers", 2, tell(x, "p1 1;s3 5 9 10 12 15 18 20;"));
        terms("eight", x, 3, 5, 9, 10, 12, 15, 18, 20);
        due("60 letters", 1, tell(x, "p1 2;" + " ".repeat(55)));
    }

    private static void fault(String text, int place) {
        UnitSums x = new UnitSums();
        due("fault of '" + text + "'", -10 - place, tell(x, text));
        due("'" + text + "' stays", text.length(), x.count(5));
        due("2 by 3 stays: P", 2, x.count(0));
        due("2 by 3 stays: Q", 3, x.count(1));
    }

    private static void fractionFaults() {
        fault("s2 6;", 0);
        fault("p1 2;p1 2;", 5);
        fault("p1 1;s2 3 6;s2 3 6;", 12);
        fault("p1 1;s2 3 6;p1 1;", 12);
        fault("p1 1;s2 3 6;;", 12);
        fault("p1 1;s2 3 6; 1", 13);
        fault("p2 1;s1 2 3 4 5 6 7 8 9;", 22);
        fault("p1 2;s6 3;", 8);
        fault("p1 2;s3 3;", 8);
        fault("p3 1;", 3);
        fault("p99 49;", 4);
        fault("p0 1;", 1);
        fault("p1 0;", 3);
        fault("p 100 1;", 2);
        fault("p 1 100;", 4);
        fault("p 1 4294967297;", 4);
        fault("p01 2;", 1);
        fault("p 00;", 2);
        fault("p1 2;s61;", 6);
        fault("p1 2;s0 2;", 6);
        fault("p1 2;s02;", 6);
        fault("p1 2;s99;", 6);
        fault("p1 2;s;", 6);
        fault("p1 2;s3;", 7);
        fault("p1 2;s2 3 ;", 10);
        fault("p1 2 3;", 5);
        fault("p1;", 2);
        fault("p12;", 3);
        fault("p;", 1);
        fault(";", 0);
        fault("  ;", 2);
        fault("1", 0);
        fault("pp", 1);
        fault("p1 2s2;", 4);
        fault("p1 2;s s", 7);
        fault("p1 2;sp", 6);
        fault("y", 0);
        fault("P1 2;", 0);
        fault("p1\t2;", 2);
        fault("p1 2;y", 5);
        fault("p3 1;y", 3);
        fault("p1 2;s2,", 7);
        fault("p1" + (char) 0, 2);
        fault("p1" + (char) 178, 2);
        fault("p", 1);
        fault("p ", 2);
        fault("p1", 2);
        fault("p1 2", 4);
        fault("p1 2   ", 7);
        fault("p1 2;s", 6);
        fault("p1 2;s2", 7);
        fault("p1 2;s2  ", 9);
    }

    private static void fractionTellsAllAnew() {
        UnitSums x = told("p 5 6;");
        x.makes(0);
        x.keep(1);
        x.sees(2, 2, 1);
        due("a fault changes nothing", -11, tell(x, "p"));
        terms("behind a fault", x, 2, 3);
        due("undone known behind a fault", 1, x.count(6));
        due("seen behind a fault", 1, x.count(4));
        due("P behind a fault", 5, x.count(0));
        due("an image behind a fault", 2, x.back(1));
        x.makes(0);
        due("anew", 1, tell(x, "p 5 6;"));
        terms("anew", x);
        due("anew: nothing undone", STATE, x.undo());
        due("anew: nothing seen", 0, x.count(4));
        due("anew: images are gone", STATE, x.back(1));
        due("anew: sums of the new one", 1, x.sums(2, 60));
        due("anew: another fraction", 1, tell(x, "p 1 60;"));
        due("anew: sums of another", 0, x.sums(2, 60));
        due("a text goes on behind a fault", -11, tell(x, "p"));
        write(x, "1 2;");
        due("then it is right", 1, x.fraction());
    }

    // Promise 5
    private static void makes() {
        UnitSums x = new UnitSums();
        due("makes(-1)", BAD, x.makes(-1));
        due("makes(4)", BAD, x.makes(4));
        due("makes(0)", 2, x.makes(0));
        terms("greedy", x, 2, 6);
        due("makes(1)", 4, x.makes(1));
        terms("odd", x, 3, 5, 9, 45);
        x = told("p1 4;");
        due("makes(2) of 1 by 4", 1, x.makes(2));
        terms("one term", x, 4);
        // 5 by 12: 3 and 12, or 4 and 6.
        x = told("p5 12;");
        due("makes(2) of 5 by 12", 2, x.makes(2));
        terms("the first of two", x, 3, 12);
        due("makes(3) of 5 by 12", 2, x.makes(3));
        terms("the least greatest", x, 4, 6);
        // 13 by 12: the fewest are 1 and 12, but three have a lower bound.
        x = told("p13 12;");
        due("makes(2) of 13 by 12", 2, x.makes(2));
        terms("the fewest", x, 1, 12);
        due("makes(3) of 13 by 12", 3, x.makes(3));
        terms("the lower bound", x, 2, 3, 4);
        // 21 by 20: within 10 there is one of four and one of five.
        x = told("p21 20;");
        due("of five within 10", 1, x.sums(5, 10));
        due("makes(3) of 21 by 20", 4, x.makes(3));
        terms("of several the least", x, 2, 4, 5, 10);
        x = told("p2 1;");
        due("makes(1) of 2", STATE, x.makes(1));
        terms("nothing changed", x);
        due("nothing to undo", 0, x.count(6));
        x = told("p4 97;");
        for (int way = 0; way < 4; way++) {
            due("4 by 97: makes(" + way + ")", STATE, x.makes(way));
        }
        // 2 by 15: 8 and 120 is beyond 60; 9 and 45, 10 and 30, 12 and 20 are not.
        x = told("p2 15;");
        due("makes(2) of 2 by 15", 2, x.makes(2));
        terms("the first within 60", x, 9, 45);
        due("makes(3) of 2 by 15", 2, x.makes(3));
        terms("the least bound", x, 12, 20);
    }

    // Promise 6
    private static void splits() {
        UnitSums x = told("p1 6;s6;");
        due("splits(0, 0)", 2, x.splits(0, 0));
        terms("6 by rule 0", x, 7, 42);
        x = told("p1 6;s6;");
        due("splits(0, 1)", 2, x.splits(0, 1));
        terms("6 by rule 1", x, 9, 18);
        x = told("p1 6;s6;");
        due("splits(0, 2)", 2, x.splits(0, 2));
        terms("6 by rule 2", x, 8, 24);
        x = told("p1 6;s6;");
        due("splits(0, 3)", 3, x.splits(0, 3));
        terms("6 by rule 3", x, 12, 18, 36);
        due("splits(2, 0)", 4, x.splits(2, 0));
        terms("the last", x, 12, 18, 37, 1332);
        due("splits(1, 0)", 5, x.splits(1, 0));
        terms("in order", x, 12, 19, 37, 342, 1332);
        x = told("p1 1;s1;");
        due("1 by rule 3", 3, x.splits(0, 3));
        terms("1 by rule 3", x, 2, 3, 6);
    }

    private static void splitsRefused() {
        UnitSums x = new UnitSums();
        due("no term", BAD, x.splits(0, 0));
        x = told("p1 1;s2 3 6;");
        due("splits(-1, 0)", BAD, x.splits(-1, 0));
        due("splits(3, 0)", BAD, x.splits(3, 0));
        due("splits(0, -1)", BAD, x.splits(0, -1));
        due("splits(0, 4)", BAD, x.splits(0, 4));
        due("another term is 3", STATE, x.splits(0, 0));
        due("3 is odd", STATE, x.splits(1, 1));
        due("3 does not divide 2", STATE, x.splits(0, 2));
        due("another term is 6", STATE, x.splits(0, 3));
        terms("nothing changed", x, 2, 3, 6);
        due("nothing to undo", 0, x.count(6));
        x = told("p1 1;s1;");
        due("1 by rule 0", STATE, x.splits(0, 0));
        terms("1 stays", x, 1);
        // 30 becomes 31 and 930; 930 becomes 931 and 865830; that would become more than 1000000.
        x = told("p1 30;s30;");
        x.splits(0, 0);
        due("930 by rule 0", 3, x.splits(1, 0));
        due("865830 by rule 0", STATE, x.splits(2, 0));
        due("865830 by rule 1", STATE, x.splits(2, 1));
        due("865830 by rule 3", STATE, x.splits(2, 3));
        terms("up to 1000000", x, 31, 931, 865830);
        x = told("p1 1;s3 5 9 10 12 15 18 20;");
        due("a ninth by rule 0", STATE, x.splits(7, 0));
        x = told("p1 1;s3 4 9 10 12 15 18;");
        due("a ninth by rule 3", STATE, x.splits(6, 3));
        due("an eighth by rule 0", 8, x.splits(6, 0));
        terms("eight", x, 3, 4, 9, 10, 12, 15, 19, 342);
    }

    // Promise 7
    private static void joins() {
        UnitSums x = told("p1 2;s3 6;");
        due("joins(0, 0)", BAD, x.joins(0, 0));
        due("joins(0, 2)", BAD, x.joins(0, 2));
        due("joins(2, 0)", BAD, x.joins(2, 0));
        due("joins(-1, 0)", BAD, x.joins(-1, 0));
        due("joins(0, -1)", BAD, x.joins(0, -1));
        due("joins(0, 1)", 2, x.joins(0, 1));
        terms("joined", x, 2);
        x.undo();
        terms("undone", x, 3, 6);
        due("joins(1, 0)", 2, x.joins(1, 0));
        x = told("p1 1;s2 3 6;");
        due("2 is in another", STATE, x.joins(1, 2));
        due("no term", STATE, x.joins(0, 1));
        terms("nothing changed", x, 2, 3, 6);
        due("nothing to undo", 0, x.count(6));
        x = told("p1 1;s3 4 5 6 20;");
        due("5 and 20: 4 is in another", STATE, x.joins(2, 4));
        due("3 and 6", 2, x.joins(0, 3));
        terms("in order", x, 2, 4, 5, 20);
        // 865830 and 931 are 930.
        x = told("p1 30;s30;");
        x.splits(0, 0);
        x.splits(1, 0);
        due("great ones", 930, x.joins(1, 2));
        due("back to 30", 30, x.joins(0, 1));
        due("none in an empty sum", BAD, new UnitSums().joins(0, 1));
    }

    // Promise 8
    private static void undo() {
        UnitSums x = new UnitSums();
        due("undo() of none", STATE, x.undo());
        x.makes(0);
        x.splits(1, 1);
        x.joins(1, 2);
        x.makes(0);
        due("four known", 4, x.count(6));
        x.makes(9);
        x.splits(9, 0);
        x.joins(0, 1);
        due("the refused are none", 4, x.count(6));
        due("undo() of makes", 3, x.undo());
        terms("ahead of makes", x, 2, 6);
        due("undo() of joins", 2, x.undo());
        terms("ahead of joins", x, 2, 9, 18);
        due("undo() of splits", 1, x.undo());
        terms("ahead of splits", x, 2, 6);
        due("undo() of the first makes", 0, x.undo());
        terms("ahead of all", x);
        due("undo() of none any more", STATE, x.undo());
        for (int i = 0; i < 13; i++) {
            x.makes(i % 2);
        }
        due("ten are known", 10, x.count(6));
        for (int more = 9; more >= 0; more--) {
            due("undo() of ten", more, x.undo());
        }
        terms("older ones are lost", x, 2, 6);
        due("undo() behind ten", STATE, x.undo());
    }

    // Promise 9
    private static void term() {
        UnitSums x = told("p1 1;s2 3 6;");
        due("term(-1)", BAD, x.term(-1));
        due("term(0)", 2, x.term(0));
        due("term(2)", 6, x.term(2));
        due("term(3)", NONE, x.term(3));
        due("term(8)", NONE, x.term(8));
        due("term(1000)", NONE, x.term(1000));
    }

    private static void greedyRow(String text, int way, int... want) {
        UnitSums x = told(text);
        String where = text + " greedy(" + way + ", ";
        due(where + "-1)", want.length == 0 ? NONE : want.length, x.greedy(way, -1));
        for (int k = 0; k < 10; k++) {
            due(where + k + ")", k < want.length ? want[k] : NONE, x.greedy(way, k));
        }
        due(text + " keeps the sum", 0, x.count(2));
    }

    // Promise 10
    private static void greedy() {
        greedyRow("p2 3;", 0, 2, 6);
        greedyRow("p2 3;", 1, 3, 5, 9, 45);
        greedyRow("p2 1;", 0, 1, 2, 3, 6);
        greedyRow("p2 1;", 1);
        greedyRow("p1 1;", 0, 1);
        greedyRow("p1 1;", 1, 1);
        greedyRow("p3 2;", 0, 1, 2);
        greedyRow("p4 13;", 0, 4, 18, 468);
        greedyRow("p2 7;", 1, 5, 13, 115, 10465);
        greedyRow("p1 2;", 1);
        greedyRow("p4 97;", 0);
        UnitSums x = new UnitSums();
        due("greedy(-1, 0)", BAD, x.greedy(-1, 0));
        due("greedy(2, 0)", BAD, x.greedy(2, 0));
        due("greedy(0, -2)", BAD, x.greedy(0, -2));
        due("greedy(0, 1000)", NONE, x.greedy(0, 1000));
    }

    // Promise 11
    private static void sums() {
        UnitSums x = new UnitSums();
        due("sums(0, 1)", BAD, x.sums(0, 1));
        due("sums(6, 1)", BAD, x.sums(6, 1));
        due("sums(1, 0)", BAD, x.sums(1, 0));
        due("sums(1, 61)", BAD, x.sums(1, 61));
        due("sums(1, 60) of 2 by 3", 0, x.sums(1, 60));
        due("sums(2, 5)", 0, x.sums(2, 5));
        due("sums(2, 6)", 1, x.sums(2, 6));
        // 2 7 42, 2 8 24, 2 9 18, 2 10 15, 3 4 12; and 2 by 3 is no more of three within 60.
        due("sums(3, 60)", 5, x.sums(3, 60));
        due("sums(3, 42)", 5, x.sums(3, 42));
        due("sums(3, 41)", 4, x.sums(3, 41));
        due("sums(3, 12)", 1, x.sums(3, 12));
        due("sums(3, 11)", 0, x.sums(3, 11));
        x = told("p1 60;");
        due("1 by 60: sums(1, 60)", 1, x.sums(1, 60));
        due("1 by 60: sums(1, 59)", 0, x.sums(1, 59));
        x = told("p2 1;");
        due("2: sums(4, 60)", 1, x.sums(4, 60));
        due("2: sums(3, 60)", 0, x.sums(3, 60));
    }

    // Promise 12
    private static void sum() {
        UnitSums x = new UnitSums();
        int[][] rows = {{2, 7, 42}, {2, 8, 24}, {2, 9, 18}, {2, 10, 15}, {3, 4, 12}};
        for (int k = 0; k < rows.length; k++) {
            for (int i = 0; i < 3; i++) {
                due("sum(3, 60, " + k + ", " + i + ")", rows[k][i], x.sum(3, 60, k, i));
            }
        }
        due("within 30 the first is another", 8, x.sum(3, 30, 0, 1));
        due("not so many sums", NONE, x.sum(3, 60, 5, 0));
        due("not so many numbers", NONE, x.sum(3, 60, 0, 3));
        due("far too many", NONE, x.sum(3, 60, Integer.MAX_VALUE, Integer.MAX_VALUE));
        due("sum(0, 60, 0, 0)", BAD, x.sum(0, 60, 0, 0));
        due("sum(6, 60, 0, 0)", BAD, x.sum(6, 60, 0, 0));
        due("sum(3, 0, 0, 0)", BAD, x.sum(3, 0, 0, 0));
        due("sum(3, 61, 0, 0)", BAD, x.sum(3, 61, 0, 0));
        due("sum(3, 60, -1, 0)", BAD, x.sum(3, 60, -1, 0));
        due("sum(3, 60, 0, -1)", BAD, x.sum(3, 60, 0, -1));
        due("BAD ahead of NONE", BAD, x.sum(3, 60, 99, -1));
    }

    // Promise 13
    private static void fewest() {
        UnitSums x = new UnitSums();
        due("fewest(0)", BAD, x.fewest(0));
        due("fewest(61)", BAD, x.fewest(61));
        due("fewest(5)", NONE, x.fewest(5));
        due("fewest(6)", 2, x.fewest(6));
        due("fewest(60)", 2, x.fewest(60));
        x = told("p5 8;");
        due("5 by 8: fewest(7)", NONE, x.fewest(7));
        due("5 by 8: fewest(8)", 2, x.fewest(8));
        due("4 by 97: fewest(60)", NONE, told("p4 97;").fewest(60));
        due("1: fewest(1)", 1, told("p1 1;").fewest(1));
        // 13 by 12 is 2, 3, 4, and 1, 12.
        x = told("p13 12;");
        due("13 by 12: fewest(3)", NONE, x.fewest(3));
        due("13 by 12: fewest(4)", 3, x.fewest(4));
        due("13 by 12: fewest(11)", 3, x.fewest(11));
        due("13 by 12: fewest(12)", 2, x.fewest(12));
    }

    // Promise 14
    private static void bound() {
        UnitSums x = new UnitSums();
        due("bound(0)", BAD, x.bound(0));
        due("bound(6)", BAD, x.bound(6));
        due("bound(1)", NONE, x.bound(1));
        due("bound(2)", 6, x.bound(2));
        due("bound(3)", 12, x.bound(3));
        due("bound(4)", 15, x.bound(4));
        due("1: bound(1)", 1, told("p1 1;").bound(1));
        due("1: bound(2)", NONE, told("p1 1;").bound(2));
        due("1: bound(3)", 6, told("p1 1;").bound(3));
        due("1: bound(4)", 12, told("p1 1;").bound(4));
        due("1 by 60: bound(1)", 60, told("p1 60;").bound(1));
        due("1 by 61: bound(1)", NONE, told("p1 61;").bound(1));
    }

    // Promise 15
    private static void holds() {
        UnitSums x = new UnitSums();
        int[][] yes = {{4, 0, 8}, {4, 1, 7}, {4, 2, 6}, {3, 2, 4}, {4, 3, 5}, {4, 4, 9}, {7, 0, 994}, {7, 3, 995}, {7, 4, 996}};
        int[][] no = {{4, 0, 7}, {4, 1, 8}, {3, 2, 7}, {4, 2, 8}, {4, 3, 6}, {4, 4, 8}, {3, 2, 1}, {7, 0, 999}};
        for (int[] one : yes) {
            due("holds " + one[0] + " " + one[1] + " " + one[2], 1, x.holds(one[0], one[1], one[2]));
        }
        for (int[] one : no) {
            due("holds not " + one[0] + " " + one[1] + " " + one[2], 0, x.holds(one[0], one[1], one[2]));
        }
        int[][] bad = {{1, 0, 1}, {8, 0, 1}, {2, -1, 1}, {2, 5, 1}, {2, 0, 0}, {2, 0, 1000}};
        for (int[] one : bad) {
            due("holds BAD " + one[0] + " " + one[1] + " " + one[2], BAD, x.holds(one[0], one[1], one[2]));
        }
    }

    // Promise 16
    private static void covered() {
        UnitSums x = new UnitSums();
        due("covered(2, 2, 1)", 1, x.covered(2, 2, 1));
        due("covered(2, 2, 2)", 2, x.covered(2, 2, 2));
        due("covered(2, 1, 3): no one alone", 0, x.covered(2, 1, 3));
        due("covered(2, 1, 8)", 1, x.covered(2, 1, 8));
        due("covered(2, 1, 16)", 1, x.covered(2, 1, 16));
        due("covered(3, 6, 4): even, and 3 divides n and 2", 16, x.covered(3, 6, 4));
        due("covered(3, 3, 4)", 0, x.covered(3, 3, 4));
        due("covered(5, 4, 8)", 8, x.covered(5, 4, 8));
        due("covered(5, 4, 16)", 1, x.covered(5, 4, 16));
        due("covered(7, 7, 31)", 65, x.covered(7, 7, 31));
        due("covered(4, 24, 0)", 0, x.covered(4, 24, 0));
        due("covered(4, 24, 31)", 16769021, x.covered(4, 24, 31));
        int[][] bad = {{1, 1, 0}, {8, 1, 0}, {2, 0, 0}, {2, 25, 0}, {2, 1, -1}, {2, 1, 32}};
        for (int[] one : bad) {
            due("covered BAD " + one[0] + " " + one[1] + " " + one[2], BAD, x.covered(one[0], one[1], one[2]));
        }
    }

    // Promise 17
    private static void open() {
        UnitSums x = new UnitSums();
        due("open(2, 0)", 1, x.open(2, 0));
        due("open(2, 2)", 2, x.open(2, 2));
        due("open(2, 3)", NONE, x.open(2, 3));
        due("open(2, 8)", NONE, x.open(2, 8));
        due("open(3, 9)", 2, x.open(3, 9));
        due("open(3, 10)", 4, x.open(3, 10));
        due("open(3, 24)", NONE, x.open(3, 24));
        due("open(4, 31)", 1, x.open(4, 31));
        due("open(1, 0)", BAD, x.open(1, 0));
        due("open(8, 0)", BAD, x.open(8, 0));
        due("open(2, -1)", BAD, x.open(2, -1));
        due("open(2, 32)", BAD, x.open(2, 32));
    }

    // Promise 18
    private static void sees() {
        UnitSums x = new UnitSums();
        int[][] bad = {{1, 1, 0}, {8, 1, 0}, {2, 0, 0}, {2, 1000, 0}, {2, 1, -1}, {2, 1, 2}};
        for (int[] one : bad) {
            due("sees BAD " + one[0] + " " + one[1] + " " + one[2], BAD, x.sees(one[0], one[1], one[2]));
        }
        due("nothing was seen", 0, x.count(4));
        for (int seen = 1; seen <= 6; seen++) {
            due("sees(7, 999, 0)", seen, x.sees(7, 999, 0));
        }
        due("a seventh", FULL, x.sees(2, 1, 0));
        due("a seventh, BAD first", BAD, x.sees(1, 1, 0));
        due("six", 6, x.count(4));
    }

    // Promise 19
    private static void forget() {
        UnitSums x = new UnitSums();
        due("forget() of none", 0, x.forget());
        x.sees(2, 1, 1);
        x.sees(2, 2, 0);
        due("forget()", 2, x.forget());
        due("forgotten", 31, x.unseen());
        due("count(4)", 0, x.count(4));
        due("sees anew", 1, x.sees(2, 1, 1));
    }

    // Promise 20
    private static void unseen() {
        UnitSums x = new UnitSums();
        due("unseen() of none", 31, x.unseen());
        x.sees(4, 12, 1);
        due("4 by 12 is split", 17, x.unseen());
        x.sees(5, 5, 0);
        due("5 by 5 is not", 16, x.unseen());
        x.sees(3, 2, 0);
        due("against all", 0, x.unseen());
        x.forget();
        x.sees(2, 2, 0);
        due("2 by 2 is not", 2, x.unseen());
    }

    // Promise 21
    private static void ask() {
        UnitSums x = new UnitSums();
        due("ask(1)", BAD, x.ask(1));
        due("ask(8)", BAD, x.ask(8));
        due("ask(2)", 1, x.ask(2));
        due("ask(4)", 2, x.ask(4));
        x.sees(4, 12, 1);
        due("0 or 4: by 4 at 3", 3, x.ask(4));
        due("0 or 4: by 2 at 1", 1, x.ask(2));
        x.sees(4, 3, 1);
        due("one is left", NONE, x.ask(4));
        x.sees(4, 3, 0);
        due("none is left", NONE, x.ask(4));
        x.forget();
        x.sees(4, 2, 1);
        x.sees(4, 5, 0);
        due("2 alone", 4, x.unseen());
        x.forget();
        x.sees(3, 12, 1);
        x.sees(2, 1, 1);
        due("4 alone", 16, x.unseen());
        x.forget();
        x.sees(2, 1, 0);
        due("0 or 2", 5, x.unseen());
        due("2 never parts them: the least", 1, x.ask(2));
        due("3 parts them at 3", 3, x.ask(3));
    }

    // Promises 22 and 23
    private static void keepAndBack() {
        UnitSums x = new UnitSums();
        due("keep(-1)", BAD, x.keep(-1));
        due("keep(2)", BAD, x.keep(2));
        due("back(-1)", BAD, x.back(-1));
        due("back(2)", BAD, x.back(2));
        due("back(0) of none", STATE, x.back(0));
        due("keep(0) of an empty sum", 0, x.keep(0));
        x.makes(0);
        due("keep(1)", 2, x.keep(1));
        due("keep() leaves what may be undone", 1, x.count(6));
        x.makes(1);
        x.sees(2, 2, 0);
        x.type('p');
        due("back(1)", 2, x.back(1));
        terms("as kept", x, 2, 6);
        due("nothing can be undone", STATE, x.undo());
        due("seen stays", 1, x.count(4));
        due("the text stays", 1, x.count(5));
        x.splits(1, 1);
        due("back(1) again", 2, x.back(1));
        terms("the image is as it was", x, 2, 6);
        due("back(0)", 0, x.back(0));
        terms("empty again", x);
        x.makes(1);
        due("keep(1) anew", 4, x.keep(1));
        x.makes(0);
        due("a refused back() leaves what may be undone", BAD, x.back(2));
        due("two", 2, x.count(6));
        due("back(1) anew", 4, x.back(1));
        terms("the newer image", x, 3, 5, 9, 45);
    }

    // Promise 24
    private static void count() {
        UnitSums x = told("p5 6;s2 3;");
        x.splits(1, 0);
        x.sees(2, 2, 0);
        x.sees(2, 3, 0);
        write(x, "p 1");
        int[] want = {5, 6, 3, 12, 2, 3, 1};
        for (int what = 0; what < want.length; what++) {
            due("count(" + what + ")", want[what], x.count(what));
        }
        due("count(-1)", BAD, x.count(-1));
        due("count(7)", BAD, x.count(7));
    }

    // No call may throw, whatever the numbers.
    private static void extremes() {
        int[] numbers = {Integer.MIN_VALUE, Integer.MAX_VALUE};
        for (int a : numbers) {
            UnitSums x = told("p1 1;s2 3 6;");
            due("type", BAD, x.type(a));
            due("makes", BAD, x.makes(a));
            due("splits k", BAD, x.splits(a, 0));
            due("splits rule", BAD, x.splits(0, a));
            due("joins j", BAD, x.joins(a, 0));
            due("joins k", BAD, x.joins(0, a));
            due("term", a < 0 ? BAD : NONE, x.term(a));
            due("greedy way", BAD, x.greedy(a, 0));
            due("greedy k", a < 0 ? BAD : NONE, x.greedy(0, a));
            due("sums n", BAD, x.sums(a, 1));
            due("sums d", BAD, x.sums(1, a));
            due("sum k", a < 0 ? BAD : NONE, x.sum(1, 1, a, 0));
            due("sum i", a < 0 ? BAD : NONE, x.sum(1, 1, 0, a));
            due("fewest", BAD, x.fewest(a));
            due("bound", BAD, x.bound(a));
            due("holds", BAD, x.holds(a, 0, 1));
            due("holds n", BAD, x.holds(2, 0, a));
            due("covered m", BAD, x.covered(2, a, 0));
            due("open on", BAD, x.open(2, a));
            due("sees is", BAD, x.sees(2, 1, a));
            due("ask", BAD, x.ask(a));
            due("keep", BAD, x.keep(a));
            due("back", BAD, x.back(a));
            due("count", BAD, x.count(a));
        }
    }
}
