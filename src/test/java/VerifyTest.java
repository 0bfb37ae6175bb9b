/** Promises 14 and 15: poke and verify. */
public final class VerifyTest {
    public static void main(String[] args) {
        pokes();
        good();
        otherGoodHints();
        badHints();
        conflictIsLast();
        liveOnes();
        partners();
        firstBad();
        Due.end();
    }

    private static ProofTrimmer checked(String formula, String proof) {
        ProofTrimmer x = Due.of(formula, proof);
        x.check();
        return x;
    }

    private static void pokes() {
        ProofTrimmer x = Due.of(CheckTest.SQUARE, "1 0 0");
        Due.due("poke before check", x.poke(6, 0, 5), false);
        x.check();
        Due.due("poke(5, 1, 9)", x.poke(5, 1, 9), true);
        Due.hintsDue("poked", x, 5, 1, 9);
        Due.hintsDue("poked", x, 6, 5, 2, 4);
        Due.due("poke of the least", x.poke(5, 0, Integer.MIN_VALUE), true);
        Due.due("poke of the greatest", x.poke(6, 2, Integer.MAX_VALUE), true);
        Due.hintsDue("poked", x, 5, Integer.MIN_VALUE, 9);
        Due.hintsDue("poked", x, 6, 5, 2, Integer.MAX_VALUE);
        for (int i : new int[] {Integer.MIN_VALUE, -1, 0, 1, 4, 7, 33, 64, Integer.MAX_VALUE}) {
            Due.due("poke(" + i + ", 0, 1)", x.poke(i, 0, 1), false);
        }
        for (int k : new int[] {Integer.MIN_VALUE, -1, 2, 3, 2048, Integer.MAX_VALUE}) {
            Due.due("poke(5, " + k + ", 1)", x.poke(5, k, 1), false);
        }
        Due.hintsDue("poked", x, 6, 5, 2, Integer.MAX_VALUE);
        Due.marksDue("poked", x, 1, 2, 3, 4, 5, 6);
    }

    private static void good() {
        ProofTrimmer x = Due.of(CheckTest.SQUARE);
        Due.due("verify() without a proof", Due.answer(x::verify), Due.STATE);
        Due.type(x, "1 0 0");
        x.proof(false);
        Due.due("verify() before check", Due.answer(x::verify), Due.STATE);
        x.check();
        Due.due("good: verify()", x.verify(), 0);
        Due.due("good, again: verify()", x.verify(), 0);
        Due.due("good, two ways: verify()", checked(CheckTest.TWO_WAYS, CheckTest.TWO_WAYS_PROOF).verify(), 0);
        Due.due("good, pivot: verify()", checked(CheckTest.PIVOT, "1 2 0 0").verify(), 0);
        Due.due("good, no partner: verify()", checked(CheckTest.NO_PARTNER, "8 0 -8 1 0 0").verify(), 0);
        Due.due("good, no hint: verify()", checked(CheckTest.SQUARE, "8 0 -8 1 0 0").verify(), 0);
        Due.due("good, empty clause: verify()", checked("p cnf 1 1 0", "0").verify(), 0);
        ProofTrimmer y = CheckTest.manyPartners();
        y.check();
        Due.due("good, many partners: verify()", y.verify(), 0);
    }

    private static void otherGoodHints() {
        // The hints are followed, not compared with those of the check.
        ProofTrimmer x = checked(CheckTest.TWO_WAYS, CheckTest.TWO_WAYS_PROOF);
        x.poke(7, 0, 1);
        x.poke(7, 1, 2);
        Due.due("the other way: verify()", x.verify(), 0);
        x.poke(7, 0, 2);
        x.poke(7, 1, 1);
        Due.due("the other way, turned: verify()", x.verify(), 0);
        ProofTrimmer y = checked(CheckTest.PIVOT, "1 2 0 0");
        y.poke(11, 3, 6);
        y.poke(11, 4, 4);
        Due.due("a partner's hints, turned: verify()", y.verify(), 0);
        y.poke(11, 3, 7);
        y.poke(11, 4, 4);
        y.poke(11, 5, 6);
        Due.due("a partner's hints, the conflict too soon: verify()", y.verify(), 11);
    }

    private static void badHints() {
        int[] values = {Integer.MIN_VALUE, -33, -11, -5, -4, -3, -2, -1, 0, 2, 3, 4, 5, 6, 7, 8, 9, 10, 11, 12, 13, 33,
            64, 65, Integer.MAX_VALUE};
        for (int value : values) {
            ProofTrimmer x = checked(CheckTest.PIVOT, "1 2 0 0");
            x.poke(11, 0, value);
            Due.due("front hint " + value + ": verify()", x.verify(), 11);
            x.poke(11, 0, 1);
            Due.due("front hint back: verify()", x.verify(), 0);
            x.poke(11, 5, value);
            Due.due("last hint " + value + ": verify()", x.verify(), value == 7 ? 0 : 11);
            x.poke(11, 5, 7);
            x.poke(12, 4, value);
            // 8, 11, 3 and 9 make -2, 1, 4 and 7 true: only 10 has no other literal then.
            Due.due("last hint of the empty clause " + value + ": verify()", x.verify(), value == 10 ? 0 : 12);
        }
    }

    private static void conflictIsLast() {
        String formula = "p cnf 5 7 1 2 0 -2 3 0 -3 1 0 1 4 0 1 -4 0 -1 5 0 -1 -5 0";
        ProofTrimmer x = checked(formula, "1 0 0");
        Due.hintsDue("conflictIsLast", x, 8, 1, 2, 3);
        x.poke(8, 0, 4);
        x.poke(8, 1, 5);
        Due.due("a hint behind the conflict: verify()", x.verify(), 8);
        x.poke(8, 2, 5);
        Due.due("the conflict twice: verify()", x.verify(), 8);
        x.poke(8, 2, 0);
        Due.due("0 behind the conflict: verify()", x.verify(), 8);
        x.poke(8, 2, -6);
        Due.due("a partner behind the conflict: verify()", x.verify(), 8);
        x.poke(8, 1, 1);
        x.poke(8, 2, 5);
        Due.due("the conflict at last: verify()", x.verify(), 0);
    }

    private static void liveOnes() {
        // 5 is like 2, but not marked, and so not live in the other way.
        ProofTrimmer x = checked(CheckTest.SQUARE, "-1 2 0 1 0 0");
        Due.hintsDue("liveOnes", x, 7, 6, 2, 4);
        x.poke(7, 1, 5);
        Due.due("an unmarked clause as hint: verify()", x.verify(), 7);
        x.poke(7, 1, 2);
        x.poke(6, 1, 6);
        Due.due("the clause itself as hint: verify()", x.verify(), 6);
        ProofTrimmer y = checked(CheckTest.TWO_WAYS, CheckTest.TWO_WAYS_PROOF);
        y.poke(8, 0, 1);
        y.poke(8, 1, 2);
        Due.due("a clause that was taken as hint: verify()", y.verify(), 8);
        // A clause that was taken is no partner, neither there nor here.
        ProofTrimmer z = checked("p cnf 8 5 1 2 0 1 -2 0 -1 2 0 -1 -2 0 -8 0", "d -8 0 8 0 -8 1 0 0");
        Due.hintsDue("no partner", z, 6);
        Due.due("no partner: verify()", z.verify(), 0);
    }

    private static void partners() {
        ProofTrimmer x = CheckTest.manyPartners();
        x.check();
        x.poke(18, 0, -6);
        Due.due("a partner twice: verify()", x.verify(), 18);
        x.poke(18, 2, -5);
        Due.due("partners in another order: verify()", x.verify(), 18);
        x.poke(18, 0, -5);
        x.poke(18, 2, -6);
        x.poke(18, 25, 3);
        Due.due("a partner without a conflict: verify()", x.verify(), 18);
        x.poke(18, 25, -17);
        Due.due("the last partner twice: verify()", x.verify(), 18);
        ProofTrimmer z = checked(CheckTest.PIVOT, "1 2 0 0");
        z.poke(11, 2, 3);
        Due.due("a partner without its minus: verify()", z.verify(), 11);
        ProofTrimmer y = checked(CheckTest.NO_PARTNER, "8 0 -8 1 0 0");
        y.poke(6, 0, -5);
        Due.due("a partner that is none: verify()", y.verify(), 6);
        y.poke(6, 0, 5);
        Due.due("a partner that is none, back: verify()", y.verify(), 0);
        assumptionsEnd();
    }

    private static void assumptionsEnd() {
        // For partner 3 the literal -3 is assumed, for partner 4 only -5: there 1 and 2 say nothing.
        String formula = "p cnf 7 8 3 4 0 3 -4 0 -1 3 0 -1 5 0 5 6 0 5 -6 0 -3 -5 7 0 -3 -5 -7 0";
        ProofTrimmer x = checked(formula, "1 0 0");
        Due.hintsDue("assumptionsEnd", x, 9, -3, 1, 2, -4, 5, 6);
        Due.hintsDue("assumptionsEnd", x, 10, 9, 3, 4, 7, 8);
        Due.due("assumptionsEnd: verify()", x.verify(), 0);
        x.poke(9, 4, 1);
        x.poke(9, 5, 2);
        Due.due("assumptionsEnd, the hints of the partner before: verify()", x.verify(), 9);
        x.poke(9, 4, 2);
        x.poke(9, 5, 1);
        Due.due("assumptionsEnd, the same turned: verify()", x.verify(), 9);
    }

    private static void firstBad() {
        ProofTrimmer x = checked(CheckTest.TWO_WAYS, CheckTest.TWO_WAYS_PROOF);
        x.poke(9, 0, 0);
        Due.due("firstBad: verify()", x.verify(), 9);
        x.poke(8, 0, 0);
        Due.due("firstBad: verify()", x.verify(), 8);
        x.poke(7, 0, 0);
        Due.due("firstBad: verify()", x.verify(), 7);
        x.poke(7, 0, 3);
        x.poke(8, 0, 3);
        x.poke(9, 0, 5);
        Due.due("firstBad, all back: verify()", x.verify(), 0);
    }
}
