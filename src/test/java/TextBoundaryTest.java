/** The boundaries of THE FRACTION and THE TEXT (promises 1 to 4), each sentence of the document by itself. */
public final class TextBoundaryTest {
    private static final int BAD = -1, STATE = -2, FULL = -3, NONE = -9;
    private static final Check CHECK = new Check();

    public static void main(String[] args) {
        atFirst();
        letters();
        sixtyLetters();
        cleared();
        partsFrom1To99();
        notAbove2();
        blanks();
        blanksBetweenNumbers();
        noItems();
        endedTooEarly();
        pFirstAndOnce();
        sOnce();
        oneToEightNumbers();
        numbersFrom1To60();
        numbersRise();
        theSumIsTheFraction();
        numbersAbove99();
        zeroAhead();
        otherLetters();
        tokensOutOfPlace();
        theFirstFault();
        placesOfFaults();
        toldAnew();
        aFaultChangesNothing();
        CHECK.end("TextBoundaryTest");
    }

    private static Run run(String... calls) {
        return new Run(CHECK, calls);
    }

    /** An object that has something of all there is. */
    private static Run busy() {
        return run("tell p5 6;", "makes 0", "keep 0", "splits 1 0", "keep 1", "makes 2", "sees 4 12 1", "sees 5 5 0");
    }

    private static void reads(String text, int p, int q, int... terms) {
        Run one = busy().is(terms.length == 0 ? 1 : 2, "tell " + text);
        one.is(p, "count 0").is(q, "count 1").sum(terms).is(0, "count 5");
    }

    private static void fault(String text, int place) {
        busy().is(text.length(), "write " + text).leaves(-10 - place, "fraction").is(text.length(), "clear");
    }

    // Promise 1; "2 by 3 at first", "where it is not empty (it is at first)"
    private static void atFirst() {
        run().is(2, "count 0").is(3, "count 1").sum().is(0, "count 4").is(0, "count 5").is(0, "count 6");
        run().leaves(STATE, "undo").leaves(STATE, "back 0").leaves(STATE, "back 1").is(31, "unseen");
        run().leaves(0, "clear").leaves(0, "forget").leaves(BAD, "splits 0 0").leaves(BAD, "joins 0 1");
    }

    // "A letter (0 .. 255)"
    private static void letters() {
        busy().is(5, "write p1 2;").leaves(BAD, "type -1").leaves(BAD, "type 256").is(5, "count 5");
        busy().leaves(BAD, "type -2147483648").leaves(BAD, "type 2147483647").leaves(BAD, "type 368");
        busy().is(1, "type 0").is(2, "type 1").is(3, "type 254").is(4, "type 255").is(4, "count 5");
    }

    // "a text (60 letters at most)", "FULL: 60"
    private static void sixtyLetters() {
        String text = "p1 2;" + " ".repeat(53);
        busy().is(58, "write " + text).is(59, "type 32").is(60, "type 32").leaves(FULL, "type 32").leaves(FULL, "type 115")
            .leaves(BAD, "type 256").leaves(BAD, "type -1").is(60, "count 5").is(1, "fraction").is(1, "count 0");
        busy().is(60, "write " + text + "  ").is(60, "clear").is(0, "count 5").is(1, "type 112");
        busy().is(60, "write " + text + "  ").is(1, "fraction").is(1, "type 112");
        busy().is(60, "write " + " ".repeat(60)).is(0, "fraction").is(0, "count 5");
    }

    // Promise 3
    private static void cleared() {
        busy().leaves(0, "clear").is(1, "type 0").is(1, "clear").leaves(0, "clear").sum(2, 3).is(3, "count 6");
    }

    // "P by Q (each 1 .. 99"
    private static void partsFrom1To99() {
        fault("p0 1;", 1);
        reads("p1 1;", 1, 1);
        reads("p98 99;", 98, 99);
        reads("p99 99;", 99, 99);
        fault("p100 99;", 1);
        fault("p1 0;", 3);
        reads("p1 98;", 1, 98);
        reads("p1 99;", 1, 99);
        fault("p1 100;", 3);
        fault("p99 100;", 4);
    }

    // "not above 2", "Q by which it is above 2"
    private static void notAbove2() {
        reads("p1 1;", 1, 1);
        reads("p2 1;", 2, 1);
        fault("p3 1;", 3);
        reads("p97 49;", 97, 49);
        reads("p98 49;", 98, 49);
        fault("p99 49;", 4);
        reads("p99 50;", 99, 50);
        fault("p99 1;", 4);
    }

    // "blanks (32), any number, ahead of, between, behind TOKENS"
    private static void blanks() {
        reads("p1 2;s3 6;", 1, 2, 3, 6);
        reads(" p1 2;s3 6;", 1, 2, 3, 6);
        reads("p 1 2;s3 6;", 1, 2, 3, 6);
        reads("p1  2;s3 6;", 1, 2, 3, 6);
        reads("p1 2 ;s3 6;", 1, 2, 3, 6);
        reads("p1 2; s3 6;", 1, 2, 3, 6);
        reads("p1 2;s 3 6;", 1, 2, 3, 6);
        reads("p1 2;s3  6;", 1, 2, 3, 6);
        reads("p1 2;s3 6 ;", 1, 2, 3, 6);
        reads("p1 2;s3 6; ", 1, 2, 3, 6);
        reads(" ".repeat(50) + "p1 2;s3 6;", 1, 2, 3, 6);
        reads("p1 2;s3 6;" + " ".repeat(50), 1, 2, 3, 6);
        reads("p1 2;s3" + " ".repeat(51) + "6;", 1, 2, 3, 6);
        fault("p1" + (char) 31 + "2;", 2);
        fault("p1" + (char) 33 + "2;", 2);
        fault("p1 2;" + (char) 31, 5);
        fault("p1 2;" + (char) 33, 5);
        fault((char) 160 + "p1 2;", 0);
    }

    // "needed only between two NUMBERS"
    private static void blanksBetweenNumbers() {
        reads("p1 1;s1;", 1, 1, 1);
        fault("p11;s1;", 3);
        reads("p12 36;s3;", 12, 36, 3);
        fault("p1 2;s36;", 8);
        reads("p1 36;s36;", 1, 36, 36);
    }

    // "ITEMS (none, too)", "(No ITEMS: 2 by 3.)"
    private static void noItems() {
        for (String text : new String[] {"", " ", " ".repeat(59), " ".repeat(60)}) {
            Run one = busy().is(0, "tell " + text).is(2, "count 0").is(3, "count 1").sum();
            one.is(0, "count 4").is(0, "count 5").is(0, "count 6").leaves(STATE, "back 0").leaves(STATE, "back 1");
        }
        fault(";", 0);
        fault("   ;", 3);
    }

    // "each ended by ;", "the text's length, if it ends too early"
    private static void endedTooEarly() {
        String text = " p 2 4 ; s 3 6 ; ";
        for (int length = 0; length <= text.length(); length++) {
            String part = text.substring(0, length);
            int stops = part.length() - part.replace(";", "").length();
            if (part.isBlank() || stops == 1 && !part.contains("s") || stops == 2) {
                busy().is(stops, "tell " + part);
            } else {
                fault(part, length);
            }
        }
        fault("p", 1);
        fault("p1", 2);
        fault("p1 2", 4);
        fault("p1 2;s", 6);
        fault("p1 2;s2", 7);
        fault("p1 1;s3 5 9 10 12 15 18 20", 26);
        fault("p1" + " ".repeat(58), 60);
    }

    // "(THE FRACTION; the first of all; once)", "s ahead of p, p .. again"
    private static void pFirstAndOnce() {
        fault("s3 6;", 0);
        fault("s3 6;p1 2;", 0);
        fault("  s", 2);
        fault("1 2;", 0);
        fault("p1 2;p", 5);
        fault("p1 2;p1 2;", 5);
        fault("p1 2;s3 6;p1 2;", 10);
        fault("p1 2;s3 6 p", 10);
        fault("pp1 2;", 1);
        fault("p1p", 2);
        fault("p1 2p", 4);
    }

    // "(THE SUM; once)", "s again"
    private static void sOnce() {
        fault("p1 2;s3 6;s", 10);
        fault("p1 2;s3 6;s3 6;", 10);
        fault("p1 2;ss", 6);
        fault("p1 2;s3 s", 8);
        fault("p1 2;s3 6;;", 10);
        fault("p1 2;s3 6;1", 10);
        fault("p1 2;;", 5);
        fault("p1 2;1", 5);
    }

    // "numbers, one to eight", "a ninth number"
    private static void oneToEightNumbers() {
        fault("p1 1;s;", 6);
        fault("p1 1;s ;", 7);
        reads("p1 1;s1;", 1, 1, 1);
        reads("p1 2;s3 6;", 1, 2, 3, 6);
        reads("p1 1;s3 4 9 10 12 15 18;", 1, 1, 3, 4, 9, 10, 12, 15, 18);
        reads("p1 1;s3 5 9 10 12 15 18 20;", 1, 1, 3, 5, 9, 10, 12, 15, 18, 20);
        // The ninth alone is at fault, even where nine would be the fraction.
        fault("p1 1;s4 5 8 9 10 15 18 20 24;", 26);
        fault("p1 1;s4 5 8 9 10 15 18 20 24", 26);
    }

    // "1 .. 60", "a NUMBER beyond what it may be"
    private static void numbersFrom1To60() {
        fault("p1 1;s0;", 6);
        reads("p1 1;s1;", 1, 1, 1);
        reads("p1 59;s59;", 1, 59, 59);
        reads("p1 60;s60;", 1, 60, 60);
        fault("p1 61;s61;", 7);
        fault("p1 99;s99;", 7);
        fault("p1 99;s100;", 7);
        fault("p1 1;s1 0;", 8);
        reads("p61 60;s1 60;", 61, 60, 1, 60);
        fault("p62 61;s1 61;", 10);
    }

    // "rising", "one that is no more than the one ahead"
    private static void numbersRise() {
        fault("p1 2;s4 3;", 8);
        fault("p1 2;s4 4;", 8);
        reads("p9 20;s4 5;", 9, 20, 4, 5);
        fault("p1 1;s2 3 3;", 10);
        fault("p1 1;s2 3 2;", 10);
        fault("p1 2;s6 3;", 8);
        fault("p1 1;s1 1;", 8);
        reads("p59 58;s1 58;", 59, 58, 1, 58);
        fault("p1 30;s60 60;", 10);
        fault("p1 30;s60 59;", 10);
    }

    // "; behind a SUM that is not THE FRACTION"
    private static void theSumIsTheFraction() {
        fault("p1 2;s3;", 7);
        reads("p1 3;s3;", 1, 3, 3);
        reads("p33 99;s3;", 33, 99, 3);
        fault("p34 99;s3;", 9);
        fault("p32 99;s3;", 9);
        fault("p1 2;s3 5;", 9);
        reads("p1 2;s3 6;", 1, 2, 3, 6);
        fault("p1 2;s3 7;", 9);
        fault("p1 2;s3 6 7;", 11);
        fault("p1 2;s1;", 7);
        fault("p1 2;s3  ;", 9);
        // The numbers' product is beyond an int, and the sum is short of 1 by one part in many.
        fault("p1 1;s3 5 9 10 12 15 18 21;", 26);
        fault("p1 1;s3 5 9 10 12 15 19 20;", 26);
        fault("p1 7;s53 54 55 56 57 58 59 60;", 29);
    }

    // "a NUMBER above 99"
    private static void numbersAbove99() {
        reads("p99 99;", 99, 99);
        fault("p100 99;", 1);
        fault("p 100 99;", 2);
        fault("p1 100;", 3);
        fault("p1 2;s100;", 6);
        fault("p1 2;s3 100;", 8);
        fault("100", 0);
        fault("p1 2;100", 5);
        // What would be a right number again, if it were kept in 8, 16, 32 or 64 bits.
        fault("p257 2;", 1);
        fault("p65537 2;", 1);
        fault("p4294967297 2;", 1);
        fault("p18446744073709551617 2;", 1);
        fault("p1 4294967298;", 3);
        fault("p1 2;s4294967298;", 6);
        fault("p" + "9".repeat(59), 1);
        fault("9".repeat(60), 0);
        fault("p" + "1" + "0".repeat(56) + " 1", 1);
    }

    // "or with a 0 ahead of others"
    private static void zeroAhead() {
        fault("p0 2;", 1);
        fault("p00 2;", 1);
        fault("p01 2;", 1);
        fault("p001 2;", 1);
        fault("p1 02;", 3);
        fault("p1 2;s02;", 6);
        fault("p1 2;s3 06;", 8);
        fault("p" + "0".repeat(58) + "1", 1);
        reads("p10 20;s2;", 10, 20, 2);
        reads("p1 10;s10;", 1, 10, 10);
    }

    // "of any other letter"
    private static void otherLetters() {
        for (int letter = 0; letter <= 255; letter++) {
            if (letter == ' ' || letter == ';' || letter == 'p' || letter == 's' || letter >= '0' && letter <= '9') {
                continue;
            }
            char other = (char) letter;
            run("write p1 2;" + other).is(-15, "fraction");
            run("write " + other + "p1 2;").is(-10, "fraction");
            run("write p1" + other + "2;").is(-12, "fraction");
        }
        fault("P1 2;", 0);
        fault("p1 2;S2;", 5);
        fault("p1 2:", 4);
        fault("p1 2;s2:", 7);
        fault("p-1 2;", 1);
        fault("p1/2;", 2);
        fault("p1,2;", 2);
    }

    // "the first TOKEN that can't stand there"
    private static void tokensOutOfPlace() {
        fault("p;", 1);
        fault("ps", 1);
        fault("p1;", 2);
        fault("p1s", 2);
        fault("p1 2s", 4);
        fault("p1 2 3;", 5);
        fault("p1 2 s3 6;", 5);
        fault("p1 2;s3p", 7);
        fault("p1 2;sp", 6);
    }

    // "the first TOKEN": what comes behind a fault has no weight.
    private static void theFirstFault() {
        fault("p3 1;y", 3);
        fault("p3 1", 3);
        fault("p0 100;", 1);
        fault("p1 2;s61 0 y", 6);
        fault("p1 2;s3 3 y;", 8);
        fault("p1 2;s3;y", 7);
        fault("yp", 0);
        fault("p1 2;p3 1;", 5);
    }

    // "-10 less FAULT": from the first place to the one behind the last.
    private static void placesOfFaults() {
        fault("y", 0);
        fault(" y", 1);
        fault(" ".repeat(59) + "y", 59);
        fault("p1 2;" + " ".repeat(54) + "y", 59);
        fault("p1 2" + " ".repeat(56), 60);
        fault("p1 2;s3 6" + " ".repeat(51), 60);
        fault("p1 2;s3 6" + " ".repeat(50), 59);
        fault("p1 2;s3" + " ".repeat(52) + ";", 59);
        // A number's place is its first letter's, not its last one's.
        fault("p1 2;" + "7".repeat(55), 5);
        busy().is(60, "write " + "p1 2;s3 6" + " ".repeat(50) + ";").is(2, "fraction").sum(3, 6);
    }

    // "(Read anew: as told (what is not told as at first), THE SUM empty, if it is not told; nothing can be UNDONE ..."
    private static void toldAnew() {
        String[] texts = {"", "p5 6;", "p5 6;s2 3;"};
        for (int items = 0; items < texts.length; items++) {
            Run one = busy().is(items, "tell " + texts[items]).is(items == 0 ? 2 : 5, "count 0");
            one.is(items == 0 ? 3 : 6, "count 1").is(items == 2 ? 2 : 0, "count 2").is(items == 2 ? 2 : NONE, "term 0");
            one.is(0, "count 6").leaves(STATE, "undo").is(0, "count 4").is(31, "unseen").is(0, "forget");
            one.leaves(STATE, "back 0").leaves(STATE, "back 1").is(0, "count 5");
        }
        // All that is sought is sought for the new fraction, for each number of terms.
        int[][] due = {{0, 1, 5, 26, 73}, {1, 0, 0, 0, 0}, {1, 0, 1, 6, 30}};
        String[] anew = {"", "p1 60;", "p1 1;"};
        Run one = run();
        for (int turn = 0; turn <= anew.length; turn++) {
            for (int n = 1; n <= 5; n++) {
                one.is(due[turn % 3][n - 1], "sums " + n + " 60");
            }
            one.is(turn % 3 == 0 ? 2 : 1, "fewest 60").is(turn % 3 == 0 ? 2 : 1, "greedy 0 -1");
            one.is(new int[] {NONE, 60, 1}[turn % 3], "bound 1").times(1, "tell " + anew[(turn + 1) % 3]);
        }
    }

    // "nothing changes (THE TEXT stays, too)"
    private static void aFaultChangesNothing() {
        busy().is(2, "write p1").leaves(-12, "fraction").leaves(-12, "fraction").is(5, "write  2;").is(1, "fraction")
            .is(1, "count 0").is(2, "count 1");
        busy().is(8, "write p1 2;s3 ").leaves(-18, "fraction").is(10, "write 6;").is(2, "fraction").sum(3, 6);
        busy().is(4, "write p3 1").leaves(-13, "fraction").is(4, "count 5").is(6, "count 1");
    }
}
