/** The boundaries of the classes and of what is seen (promises 15 to 21), each sentence of the document by itself. */
public final class ClassBoundaryTest {
    private static final int BAD = -1, FULL = -3, NONE = -9;
    private static final Check CHECK = new Check();
    private static final int MOST = Integer.MAX_VALUE, LEAST = Integer.MIN_VALUE;

    public static void main(String[] args) {
        numerators();
        identities();
        numbersFrom1To999();
        identitiesHold();
        moduli();
        choices();
        restsAreBits();
        oneIdentityForAll();
        openFromOneOn();
        noneIsOpen();
        sixSeen();
        seenOrNot();
        forgotten();
        unseenFromAllToNone();
        askOfOneOrNone();
        askTheLeast();
        askTheGreatest();
        askThatPartsNothing();
        CHECK.end("ClassBoundaryTest");
    }

    private static Run run(String... calls) {
        return new Run(CHECK, calls);
    }

    /** An object that has something of all there is, but for what is seen. */
    private static Run busy() {
        return run("tell p5 6;", "makes 0", "keep 0", "splits 1 0", "keep 1", "makes 2", "write p1 2;");
    }

    // "of a numerator N (2 .. 7)"
    private static void numerators() {
        for (int numerator : new int[] {LEAST, -2, -1, 0, 1, 8, 9, MOST}) {
            busy().leaves(BAD, "holds " + numerator + " 0 1").leaves(BAD, "covered " + numerator + " 1 31")
                .leaves(BAD, "open " + numerator + " 31").leaves(BAD, "sees " + numerator + " 1 1")
                .leaves(BAD, "ask " + numerator).is(0, "count 4");
        }
        busy().leaves(1, "holds 2 0 2").leaves(0, "holds 2 0 1").leaves(1, "covered 2 2 1").leaves(1, "open 2 1")
            .leaves(1, "ask 2").is(1, "sees 2 1 1");
        busy().leaves(1, "holds 7 0 7").leaves(0, "holds 7 0 8").leaves(1, "covered 7 7 1").leaves(1, "open 7 1")
            .leaves(6, "ask 7").is(1, "sees 7 1 1");
    }

    // "an IDENTITY (0 to 4)"
    private static void identities() {
        for (int identity : new int[] {LEAST, -1, 5, 6, MOST}) {
            busy().leaves(BAD, "holds 2 " + identity + " 1").leaves(BAD, "holds 7 " + identity + " 999");
        }
        // 12 by 12, and what is beside it, for 4: each of the five holds somewhere.
        busy().leaves(1, "holds 4 0 12").leaves(1, "holds 4 1 11").leaves(1, "holds 4 2 10").leaves(1, "holds 4 3 11")
            .leaves(1, "holds 4 4 12").leaves(0, "holds 4 0 11").leaves(0, "holds 4 1 12").leaves(0, "holds 4 2 12")
            .leaves(0, "holds 4 3 12").leaves(0, "holds 4 4 11");
    }

    // "BAD (n 1 .. 999)", "a number n (1 .. 999)"
    private static void numbersFrom1To999() {
        for (int n : new int[] {LEAST, -7, -1, 0, 1000, 1001, MOST}) {
            busy().leaves(BAD, "holds 2 0 " + n).leaves(BAD, "sees 2 " + n + " 1").is(0, "count 4");
        }
        busy().leaves(0, "holds 3 0 1").leaves(1, "holds 2 1 1").leaves(1, "holds 3 3 1").leaves(1, "holds 2 4 1");
        busy().leaves(1, "holds 3 0 999").leaves(1, "holds 2 1 999").leaves(1, "holds 5 1 999").leaves(1, "holds 6 3 999")
            .leaves(1, "holds 4 4 999").leaves(0, "holds 7 0 999").leaves(1, "holds 5 2 998").leaves(0, "holds 6 2 998").leaves(0, "holds 2 2 999")
            .leaves(0, "holds 7 2 999");
        busy().is(1, "sees 2 1 1").is(2, "sees 2 999 1").is(26, "unseen");
        busy().is(1, "sees 3 999 1").is(9, "unseen");
    }

    // "if N divides n .. and n is even .. if N less 1 divides n"
    private static void identitiesHold() {
        // By 2, what N less 1 divides is all there is.
        busy().is(1, "holds 2 3 1").is(1, "holds 2 3 2").is(1, "holds 2 4 1").is(1, "holds 2 4 2");
        // 2 needs both: 3 divides 7 and 2, but 7 is odd; 4 is even, and 3 divides 4 and 2; 3 does not divide 6 and 2.
        busy().is(0, "holds 3 2 7").is(1, "holds 3 2 4").is(0, "holds 3 2 6").is(0, "holds 3 2 1");
        busy().is(1, "holds 2 2 2").is(0, "holds 2 2 1").is(1, "holds 4 2 2").is(0, "holds 4 2 4").is(1, "holds 4 2 6");
        busy().is(0, "holds 7 0 6").is(1, "holds 7 0 7").is(0, "holds 7 0 8").is(0, "holds 7 0 13").is(1, "holds 7 0 14");
        busy().is(0, "holds 7 1 5").is(1, "holds 7 1 6").is(0, "holds 7 1 7").is(1, "holds 7 1 13");
        busy().is(0, "holds 7 2 5").is(1, "holds 7 2 12").is(0, "holds 7 2 19").is(1, "holds 7 2 26");
        busy().is(0, "holds 7 3 4").is(1, "holds 7 3 5").is(0, "holds 7 3 6").is(1, "holds 7 3 11");
        busy().is(0, "holds 7 4 5").is(1, "holds 7 4 6").is(0, "holds 7 4 7").is(1, "holds 7 4 12");
    }

    // "a modulus m (1 .. 24)"
    private static void moduli() {
        for (int m : new int[] {LEAST, -1, 0, 25, 26, 32, MOST}) {
            busy().leaves(BAD, "covered 2 " + m + " 31").leaves(BAD, "covered 7 " + m + " 0");
        }
        busy().leaves(1, "covered 2 1 31").leaves(0, "covered 3 1 31").leaves(16777215, "covered 2 24 31")
            .leaves(16777215, "covered 3 24 31").leaves(16769021, "covered 4 24 31").leaves(8388607, "covered 2 23 31");
    }

    // "ON (by bits)", "BAD (on 0 .. 31)"
    private static void choices() {
        for (int on : new int[] {LEAST, -1, 32, 33, 63, MOST}) {
            busy().leaves(BAD, "covered 2 1 " + on).leaves(BAD, "open 2 " + on);
        }
        for (int numerator = 2; numerator <= 7; numerator++) {
            busy().leaves(0, "covered " + numerator + " 1 0").leaves(0, "covered " + numerator + " 24 0")
                .leaves(1, "open " + numerator + " 0");
        }
        // Each bit is the identity of its place.
        busy().is(1, "covered 4 4 1").is(8, "covered 4 4 2").is(4, "covered 4 4 4").is(0, "covered 4 4 8").is(0, "covered 4 4 16");
        busy().is(0, "covered 4 3 1").is(0, "covered 4 3 2").is(0, "covered 4 3 4").is(4, "covered 4 3 8").is(1, "covered 4 3 16");
        busy().is(13, "covered 4 4 31").is(5, "covered 4 3 31").is(13, "covered 4 4 7").is(5, "covered 4 3 24");
        busy().is(1, "open 2 1").is(2, "open 2 2").is(1, "open 2 4").is(NONE, "open 2 8").is(NONE, "open 2 16");
        busy().is(2, "open 3 8").is(1, "open 3 16").is(1, "open 3 1").is(1, "open 3 2").is(1, "open 3 4");
    }

    // "RESTS r (bits, 0 .. m less 1)"
    private static void restsAreBits() {
        // Of 0 by m itself: rest 0 is bit 0; of 1 it is the last, m less 1.
        for (int numerator = 2; numerator <= 7; numerator++) {
            for (int times = 1; times * numerator <= 24; times++) {
                int m = times * numerator;
                int zero = 0;
                for (int rest = 0; rest < m; rest += numerator) zero |= 1 << rest;
                busy().is(zero, "covered " + numerator + " " + m + " 1");
                busy().is(zero << numerator - 1, "covered " + numerator + " " + m + " 2");
            }
        }
        // The last of 24 is bit 23, and none is beyond it.
        busy().is(8521760, "covered 6 24 2").is(8521760, "covered 7 24 8");
    }

    // "for which some one IDENTITY that is ON .. holds for each n from 1 on that leaves r"
    private static void oneIdentityForAll() {
        // Each n is split by 0 or by 1, but by no one of them all: not 1, but by the rests of 2.
        busy().is(0, "covered 2 1 3").is(3, "covered 2 2 3").is(0, "covered 2 3 3").is(15, "covered 2 4 3");
        busy().is(NONE, "open 2 3");
        // 2 of 3 holds for the even ones of rest 1 by 3: 4 by 6 alone.
        busy().is(0, "covered 3 3 4").is(16, "covered 3 6 4").is(1040, "covered 3 12 4").is(0, "covered 3 5 4");
        // 7 by 7 from 1 on: rests 0 and 6, and by 24 what 6 divides; 2 by 14 needs rest 12.
        busy().is(65, "covered 7 7 31").is(1, "covered 7 7 1").is(64, "covered 7 7 2").is(0, "covered 7 7 4");
        busy().is(4096, "covered 7 14 4").is(0, "covered 7 21 4").is(33, "covered 7 6 31").is(0, "covered 7 5 31");
    }

    // "OPEN: the least n (1 .. 999) for which none that is ON holds"
    private static void openFromOneOn() {
        busy().leaves(1, "open 2 0").leaves(1, "open 2 1").leaves(2, "open 2 2").leaves(1, "open 2 5");
        busy().is(2, "open 3 8").is(2, "open 3 9").is(4, "open 3 10").is(4, "open 3 11").is(2, "open 3 13");
        // 6 of 3 by 1, 2 and 3 is the greatest that any choice leaves open.
        busy().is(6, "open 3 14").is(NONE, "open 3 15");
        for (int numerator = 4; numerator <= 7; numerator++) busy().is(1, "open " + numerator + " 31");
    }

    // "OPEN .. NONE"
    private static void noneIsOpen() {
        busy().leaves(NONE, "open 2 3").leaves(NONE, "open 2 6").leaves(NONE, "open 2 8").leaves(NONE, "open 2 16")
            .leaves(NONE, "open 2 31").leaves(NONE, "open 3 24").leaves(NONE, "open 3 31").leaves(1, "open 3 23");
    }

    // "SEEN (6 at most)", "FULL: 6"
    private static void sixSeen() {
        Run one = busy();
        for (int seen = 1; seen <= 6; seen++) {
            one.is(seen, "sees 4 12 1").is(seen, "count 4").is(17, "unseen");
        }
        one.leaves(FULL, "sees 4 3 1").leaves(FULL, "sees 4 12 1").leaves(FULL, "sees 7 999 0").leaves(BAD, "sees 8 1 0")
            .leaves(BAD, "sees 2 0 0").leaves(BAD, "sees 2 1000 0").leaves(BAD, "sees 2 1 2").leaves(BAD, "sees 2 1 -1")
            .is(6, "count 4").is(17, "unseen").is(6, "forget").is(1, "sees 4 3 1").is(18, "unseen");
        // The sixth has weight.
        busy().is(1, "sees 4 12 1").is(2, "sees 4 12 1").is(3, "sees 4 12 1").is(4, "sees 4 12 1").is(5, "sees 4 12 1")
            .is(17, "unseen").is(6, "sees 4 3 1").is(16, "unseen");
    }

    // "is split (1), or is not (0)"
    private static void seenOrNot() {
        for (int is : new int[] {LEAST, -1, 2, 3, MOST}) {
            busy().leaves(BAD, "sees 2 1 " + is).is(0, "count 4");
        }
        busy().is(1, "sees 4 12 0").is(14, "unseen").is(2, "sees 4 12 1").is(0, "unseen");
        busy().is(1, "sees 4 12 1").is(17, "unseen").is(2, "sees 4 12 0").is(0, "unseen");
    }

    // "Nothing is SEEN: how much was"
    private static void forgotten() {
        busy().leaves(0, "forget").is(1, "sees 2 1 1").is(1, "forget").is(31, "unseen").leaves(0, "forget").is(0, "count 4");
        busy().times(6, "sees 2 1 0").is(6, "forget").is(31, "unseen").times(6, "sees 2 1 1").is(26, "unseen");
    }

    // "UNSEEN: IDENTITIES (bits) by which all that was SEEN is so"
    private static void unseenFromAllToNone() {
        busy().leaves(31, "unseen");
        // 1 by 4 is split by none, and no one is ruled out by what is not so.
        busy().is(1, "sees 4 1 0").is(31, "unseen").is(2, "sees 4 1 1").is(0, "unseen").leaves(NONE, "ask 4");
        busy().is(1, "sees 3 3 1").is(9, "unseen").is(2, "sees 2 1 1").is(8, "unseen");
        busy().is(1, "sees 4 4 1").is(1, "unseen");
        busy().is(1, "sees 5 4 1").is(18, "unseen").is(2, "sees 5 8 0").is(2, "unseen");
        busy().is(1, "sees 4 6 1").is(20, "unseen").is(2, "sees 4 3 0").is(4, "unseen");
    }

    // "NONE (one can be at most)"
    private static void askOfOneOrNone() {
        busy().is(1, "sees 4 4 1").is(1, "unseen").leaves(NONE, "ask 2").leaves(NONE, "ask 7").leaves(BAD, "ask 1")
            .leaves(BAD, "ask 8");
        busy().is(1, "sees 4 1 1").is(0, "unseen").leaves(NONE, "ask 2").leaves(NONE, "ask 7").leaves(BAD, "ask 8");
        // Two can be: 0 and 4.
        busy().is(1, "sees 4 12 1").is(17, "unseen").leaves(3, "ask 4").leaves(1, "ask 2").leaves(2, "ask 3");
    }

    // "the n .. by which, split or not, the greater part of these is smallest, of several the least"
    private static void askTheLeast() {
        // 1 by 2 is split by 1, 3 and 4: three against two; no n does better, and 1 is the least.
        busy().leaves(1, "ask 2").leaves(2, "ask 3").leaves(2, "ask 4").leaves(4, "ask 5").leaves(4, "ask 6").leaves(6, "ask 7");
    }

    // "the n (1 .. 99)": 35 is the greatest that is ever asked for, with four that can be.
    private static void askTheGreatest() {
        busy().is(1, "sees 4 9 0").is(15, "unseen").leaves(35, "ask 7").leaves(15, "ask 5");
        busy().is(1, "sees 5 4 1").is(18, "unseen").leaves(12, "ask 7").leaves(10, "ask 6").leaves(8, "ask 5");
        busy().is(1, "sees 2 1 0").is(5, "unseen").leaves(7, "ask 7");
    }

    // All n are alike: the greater part is all of them by each, and 1 is the least.
    private static void askThatPartsNothing() {
        busy().is(1, "sees 2 1 0").is(5, "unseen").leaves(1, "ask 2").leaves(3, "ask 3");
        busy().is(1, "sees 2 1 1").is(2, "sees 2 2 1").is(24, "unseen").leaves(1, "ask 2").leaves(1, "ask 3");
    }
}
