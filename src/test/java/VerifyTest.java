/** Promises 14 and 15: poke and verify, and what 'Terms' says of the other way. */
public final class VerifyTest {
    private static final int[] FAR = {Integer.MIN_VALUE, Integer.MIN_VALUE + 1, -1000, -65, -64, -33, -1, 33, 64, 65,
        1000, 1 << 16, 1 << 30, Integer.MAX_VALUE};

    public static void main(String[] args) {
        pokes();
        pokesAnything();
        pokesOfNoClause();
        pokesOfNoHint();
        pokesWithoutCheck();
        pokesChangeNothingElse();
        nothingIsChecked();
        throwingLeavesEverything();
        noneBad();
        firstBad();
        lastBad();
        otherGoodHints();
        formulaIsLiveAtFirst();
        numbersOfNoClause();
        clausesNotLiveYet();
        clausesNotLiveAnyMore();
        unmarkedClausesAreNotLive();
        trueLiteral();
        twoNeither();
        emptyClauseIsConflict();
        conflictInFrontIsLast();
        conflictOfPartnerIsLast();
        noMoreBehindConflict();
        partnersByNumber();
        partnersLeftOut();
        partnersAreLive();
        nothingBehindSettledPartner();
        partnerNotSettledByHints();
        partnerMustEndWithConflict();
        assumptionsEndWithNextPartner();
        nothingLeft();
        emptyMustEndWithConflict();
        zeroIsNoHint();
        thenItIsLive();
        Due.end();
    }

    private static void verifiesTo(String what, int due, ProofTrimmer x) {
        Due.due(what + ": verify()", Due.answer(x::verify), due);
    }

    /** With these hints for clause c, as many as it has, and all others as the check left them. */
    private static void poked(int due, ProofTrimmer x, int c, int... hints) {
        int[] before = new int[hints.length];
        StringBuilder what = new StringBuilder("hints of ").append(c).append(" are");
        Due.due("hints(" + c + ")", x.hints(c), hints.length);
        for (int k = 0; k < hints.length; k++) {
            before[k] = x.hint(c, k);
            x.poke(c, k, hints[k]);
            what.append(' ').append(hints[k]);
        }
        verifiesTo(what.toString(), due, x);
        for (int k = 0; k < hints.length; k++) {
            x.poke(c, k, before[k]);
        }
        verifiesTo(what + " no more", 0, x);
    }

    private static ProofTrimmer square() {
        return Due.checked(Samples.SQUARE, "1 0 0");
    }

    private static ProofTrimmer pivot() {
        return Due.checked(Samples.PIVOT, Samples.PIVOT_PROOF);
    }

    private static ProofTrimmer twoPartners() {
        return Due.checked(Samples.TWO_PARTNERS, Samples.TWO_PARTNERS_PROOF);
    }

    private static void pokes() {
        Due.sentence("Hint k of clause c becomes h: true; false when there is none.");
        ProofTrimmer x = square();
        Due.due("poke(5, 0, 7), the first one", x.poke(5, 0, 7), true);
        Due.due("poke(5, 1, 8), the last one", x.poke(5, 1, 8), true);
        Due.due("poke(6, 2, 9), the last one", x.poke(6, 2, 9), true);
        Due.hintsDue("poked", x, 5, 7, 8);
        Due.hintsDue("poked", x, 6, 5, 2, 9);
    }

    private static void pokesAnything() {
        Due.sentence("Hint k of clause c becomes h: true; false when there is none.");
        ProofTrimmer x = square();
        for (int h : FAR) {
            Due.due("poke(6, 1, " + h + ")", x.poke(6, 1, h), true);
            Due.hintsDue("poked", x, 6, 5, h, 4);
            verifiesTo("poked with " + h, 6, x);
        }
        Due.due("poke(6, 1, 0)", x.poke(6, 1, 0), true);
        Due.hintsDue("poked, a hint 0 is one", x, 6, 5, 0, 4);
        Due.due("poke(6, 1, 2) of a hint 0", x.poke(6, 1, 2), true);
        verifiesTo("poked back", 0, x);
    }

    private static void pokesOfNoClause() {
        Due.sentence("Hint k of clause c becomes h: true; false when there is none.");
        ProofTrimmer x = square();
        for (int c : FAR) {
            Due.due("poke(" + c + ", 0, 1)", x.poke(c, 0, 1), false);
            Due.due("poke(" + c + ", " + c + ", 1)", x.poke(c, c, 1), false);
        }
        for (int c : new int[] {0, 1, 2, 3, 4, 7, 8, 32}) {
            Due.due("poke(" + c + ", 0, 1)", x.poke(c, 0, 1), false);
        }
        Due.hintsDue("not poked", x, 5, 1, 3);
        Due.hintsDue("not poked", x, 6, 5, 2, 4);
    }

    private static void pokesOfNoHint() {
        Due.sentence("Hint k of clause c becomes h: true; false when there is none.");
        ProofTrimmer x = square();
        for (int k : FAR) {
            Due.due("poke(5, " + k + ", 77)", x.poke(5, k, 77), false);
            Due.due("poke(6, " + k + ", 77)", x.poke(6, k, 77), false);
        }
        Due.due("poke(5, 2, 77)", x.poke(5, 2, 77), false);
        Due.due("poke(6, 3, 77)", x.poke(6, 3, 77), false);
        Due.hintsDue("not poked", x, 5, 1, 3);
        Due.hintsDue("not poked", x, 6, 5, 2, 4);
        ProofTrimmer y = Due.checked(Samples.SQUARE, "-1 2 0 1 0 0");
        Due.due("poke(5, 0, 2), of a clause not marked", y.poke(5, 0, 2), false);
        ProofTrimmer z = Due.checked(Samples.SQUARE, "8 0 -8 1 0 0");
        Due.due("poke(5, 0, 2), of a marked clause without hints", z.poke(5, 0, 2), false);
    }

    private static void pokesWithoutCheck() {
        Due.sentence("Hint k of clause c becomes h: true; false when there is none.");
        Due.due("a new object", new ProofTrimmer().poke(1, 0, 1), false);
        Due.due("before the check", Due.of(Samples.SQUARE, "1 0 0").poke(6, 0, 5), false);
        ProofTrimmer x = square();
        Due.type(x, "1 0 0");
        x.proof(false);
        Due.due("with a new proof", x.poke(6, 0, 5), false);
        Due.due("hint(6, 0)", x.hint(6, 0), 0);
    }

    private static void pokesChangeNothingElse() {
        Due.sentence("Hint k of clause c becomes h: true; false when there is none.");
        ProofTrimmer x = square();
        x.poke(5, 0, -4);
        x.poke(6, 0, 0);
        Due.marksDue("poked", x, 1, 2, 3, 4, 5, 6);
        Due.due("write()", Due.answer(x::write), 6);
        Due.due("check()", Due.answer(x::check), 2);
        Due.hintsDue("checked again", x, 5, 1, 3);
        Due.hintsDue("checked again", x, 6, 5, 2, 4);
    }

    private static void nothingIsChecked() {
        Due.sentence("otherwise the number of the first bad one. IllegalStateException when nothing is checked.");
        Samples.unchecked().forEach((what, x) -> Due.due(what + ": verify()", Due.answer(x::verify), Due.STATE));
    }

    private static void throwingLeavesEverything() {
        Due.sentence("What throws leaves everything as it was");
        ProofTrimmer x = square();
        x.write();
        Due.type(x, "0");
        x.proof(false);
        Due.type(x, "xyz");
        Due.refusedDue("verify()", x, x::verify, Due.STATE);
        Due.refusedDue("write()", x, x::write, Due.STATE);
        Due.due("the text", x.wipe(), 3);
        Due.due("check()", Due.answer(x::check), -1);
    }

    private static void noneBad() {
        Due.sentence("Goes the other way: 0 when no clause is bad");
        ProofTrimmer x = square();
        String before = Due.told(x);
        verifiesTo("square", 0, x);
        verifiesTo("square again", 0, x);
        Due.due("what is told then", Due.told(x), before);
        verifiesTo("two ways", 0, Due.checked(Samples.TWO_WAYS, Samples.TWO_WAYS_PROOF));
        verifiesTo("pivot", 0, pivot());
        verifiesTo("no partner", 0, Due.checked(Samples.NO_PARTNER, Samples.NO_PARTNER_PROOF));
        verifiesTo("no partner and no hint", 0, Due.checked(Samples.SQUARE, "8 0 -8 1 0 0"));
        verifiesTo("two partners", 0, twoPartners());
        verifiesTo("eight reasons", 0, Due.checked(Samples.EIGHT_REASONS, "0"));
        verifiesTo("each for itself", 0, Due.checked(Samples.EACH_FOR_ITSELF, Samples.EACH_FOR_ITSELF_PROOF));
        verifiesTo("steps behind the last that counts", 0, Due.checked(Samples.SQUARE, "1 0 0 d 1 2 0 8 0 0"));
        ProofTrimmer y = Samples.manyPartners();
        y.check();
        verifiesTo("many partners", 0, y);
        ProofTrimmer z = Samples.manyHints();
        z.check();
        verifiesTo("many hints", 0, z);
    }

    private static void firstBad() {
        Due.sentence("otherwise the number of the first bad one.");
        ProofTrimmer x = Due.checked(Samples.TWO_WAYS, Samples.TWO_WAYS_PROOF);
        x.poke(9, 0, 0);
        verifiesTo("9 is bad", 9, x);
        x.poke(8, 0, 0);
        verifiesTo("8 and 9 are bad", 8, x);
        x.poke(7, 0, 0);
        verifiesTo("7, 8 and 9 are bad", 7, x);
        x.poke(8, 0, 3);
        verifiesTo("7 and 9 are bad", 7, x);
        x.poke(7, 0, 3);
        x.poke(9, 0, 5);
        verifiesTo("none is bad any more", 0, x);
    }

    private static void lastBad() {
        Due.sentence("otherwise the number of the first bad one.");
        ProofTrimmer x = Samples.manyHints();
        x.check();
        x.poke(32, 3, 1);
        verifiesTo("the greatest number that can be", 32, x);
        x.poke(31, 167, 1);
        verifiesTo("its last hint", 31, x);
        ProofTrimmer y = Due.checked("p cnf 1 1 0", "0");
        y.poke(2, 0, 2);
        verifiesTo("the only step", 2, y);
    }

    private static void otherGoodHints() {
        Due.sentence("the opposites of its literals are true; then hints are followed");
        // They are not compared with those of the check.
        ProofTrimmer x = Due.checked(Samples.TWO_WAYS, Samples.TWO_WAYS_PROOF);
        poked(0, x, 7, 1, 2);
        poked(0, x, 7, 2, 1);
        poked(0, x, 7, 4, 3);
        poked(0, pivot(), 11, 1, -2, -3, 6, 4, 7);
        poked(0, twoPartners(), 12, 7, 3, -1, -2, 4, 5);
    }

    private static void formulaIsLiveAtFirst() {
        Due.sentence("live are at first the clauses of the formula.");
        // 1 and 2 are not marked, but of the formula, and taken only later.
        ProofTrimmer x = Due.checked(Samples.TWO_WAYS, Samples.TWO_WAYS_PROOF);
        Due.due("marked(1)", x.marked(1), false);
        poked(0, x, 7, 1, 2);
        ProofTrimmer y = Due.checked("p cnf 2 16" + " 1 2 0".repeat(14) + " 2 0 -2 0", "0");
        poked(0, y, 17, 16, 15);
    }

    private static void numbersOfNoClause() {
        Due.sentence("one above 0 must be the number of a live clause");
        int[] numbers = {7, 8, 16, 32, 33, 34, 64, 65, 66, 67, 68, 69, 128, 129, 1 << 16, 1 << 30, Integer.MAX_VALUE};
        for (int h : numbers) {
            poked(5, square(), 5, h, 3);
            poked(5, square(), 5, 1, h);
            poked(6, square(), 6, 5, 2, h);
        }
        // Bit 1 once more, and far behind all rows.
        poked(11, pivot(), 11, 65, -2, -3, 4, 6, 7);
        poked(11, pivot(), 11, 1, -2, -3, 4, 6, 71);
    }

    private static void clausesNotLiveYet() {
        Due.sentence("one above 0 must be the number of a live clause");
        poked(5, square(), 5, 1, 5);
        poked(5, square(), 5, 5, 3);
        poked(5, square(), 5, 6, 3);
        poked(6, square(), 6, 5, 2, 6);
        // 8 says the same as 7, but comes later.
        ProofTrimmer x = Due.checked(Samples.TWO_WAYS, Samples.TWO_WAYS_PROOF);
        poked(7, x, 7, 3, 8);
    }

    private static void clausesNotLiveAnyMore() {
        Due.sentence("A step that took a clause takes it again.");
        ProofTrimmer x = Due.checked(Samples.TWO_WAYS, Samples.TWO_WAYS_PROOF);
        poked(8, x, 8, 1, 2);
        ProofTrimmer y = Due.checked(Samples.SQUARE, "1 0 d 1 2 0 1 8 0 1 -8 0 d 1 0 1 0 0");
        // 5 was there when 6 and 7 were added, and is not when 8 is.
        poked(8, y, 8, 6, 5);
        poked(6, y, 6, 1);
        ProofTrimmer z = Due.checked("p cnf 1 3 1 0 -1 0 1 0", "d 1 0 0");
        poked(0, z, 4, 2, 1);
        poked(4, z, 4, 2, 3);
    }

    private static void unmarkedClausesAreNotLive() {
        Due.sentence("A step that added a clause that is not marked does nothing.");
        // 5 is alike 2.
        ProofTrimmer x = Due.checked(Samples.SQUARE, "-1 2 0 1 0 0");
        Due.hintsDue("5 is not needed", x, 7, 6, 2, 4);
        poked(7, x, 7, 6, 5, 4);
        // 5 has the opposite of 8, but is taken before 8 is added.
        ProofTrimmer y = Due.checked(Samples.SQUARE, "-8 7 0 d -8 7 0 8 0 -8 1 0 0");
        Due.due("marked(5)", y.marked(5), false);
        verifiesTo("an unneeded clause, taken", 0, y);
    }

    private static void trueLiteral() {
        Due.sentence("a live clause without a true literal and with at most one that is neither");
        // 5 makes 1 true, so that 1 and 3 have a true literal.
        poked(6, square(), 6, 5, 1, 4);
        poked(6, square(), 6, 5, 3, 4);
        poked(6, square(), 6, 5, 5, 4);
        // -4 is assumed for partner 3, and true in 9.
        poked(11, pivot(), 11, 1, -2, -3, 4, 6, 9);
        poked(11, pivot(), 11, 2, -2, -3, 4, 6, 7);
    }

    private static void twoNeither() {
        Due.sentence("a live clause without a true literal and with at most one that is neither");
        poked(6, square(), 6, 2, 5, 4);
        poked(6, square(), 6, 4, 2, 5);
        poked(11, pivot(), 11, 9, -2, -3, 4, 6, 7);
        poked(11, pivot(), 11, 1, -2, -3, 7, 4, 6);
    }

    private static void emptyClauseIsConflict() {
        Due.sentence("if there is none such, it is a conflict");
        ProofTrimmer x = Due.checked("p cnf 1 3 1 0 -1 0 0", "0");
        Due.hintsDue("by 1 and 2", x, 4, 1, 2);
        poked(0, x, 4, 1, 3);
        poked(4, x, 4, 3, 1);
        poked(4, x, 4, 3, 3);
    }

    private static void conflictInFrontIsLast() {
        Due.sentence("it is a conflict, which must be the last hint (or the last one before a negative hint)");
        ProofTrimmer x = longer();
        poked(8, x, 8, 4, 5, 1);
        poked(8, x, 8, 4, 5, 5);
        poked(8, x, 8, 4, 5, 4);
        poked(8, x, 8, 4, 5, 6);
        poked(0, x, 8, 4, 1, 5);
        poked(0, x, 8, 1, 4, 5);
    }

    /** 1 follows by 1, 2 and 3, and in a shorter way by 4 and 5. */
    private static ProofTrimmer longer() {
        ProofTrimmer x = Due.checked("p cnf 5 7 1 2 0 -2 3 0 -3 1 0 1 4 0 1 -4 0 -1 5 0 -1 -5 0", "1 0 0");
        Due.hintsDue("the longer way", x, 8, 1, 2, 3);
        return x;
    }

    private static void conflictOfPartnerIsLast() {
        Due.sentence("it is a conflict, which must be the last hint (or the last one before a negative hint)");
        // For partner 2 the clause 6 is a conflict at once.
        poked(12, twoPartners(), 12, 3, 7, -1, -2, 6, 5);
        poked(12, twoPartners(), 12, 3, 7, -1, -2, 6, 6);
        poked(0, twoPartners(), 12, 3, 7, -1, -2, 4, 6);
        poked(12, twoPartners(), 12, 3, 7, -1, -2, 6, 4);
    }

    private static void noMoreBehindConflict() {
        Due.sentence("If the positive hints in front end with a conflict, there must be no more");
        ProofTrimmer x = longer();
        for (int h : new int[] {-1, -6, -7, -8, -1000, 0, Integer.MIN_VALUE}) {
            poked(8, x, 8, 4, 5, h);
        }
    }

    private static void partnersByNumber() {
        Due.sentence("for each live clause with the opposite of the first literal, by number, minus its number");
        ProofTrimmer x = Due.checked(Samples.EACH_FOR_ITSELF, Samples.EACH_FOR_ITSELF_PROOF);
        poked(9, x, 9, -4, 5, 6, -3, 1, 2);
        poked(9, x, 9, -3, 1, 2, -3, 1, 2);
        poked(9, x, 9, -4, 5, 6, -4, 5, 6);
        poked(9, x, 9, -3, 1, 2, 4, 5, 6);
        poked(9, x, 9, 3, 1, 2, -4, 5, 6);
        poked(9, x, 9, -2, 1, 2, -4, 5, 6);
        poked(9, x, 9, -3, 1, 2, -5, 5, 6);
        poked(9, x, 9, -3, 1, 2, Integer.MIN_VALUE, 5, 6);
        poked(9, x, 9, -3, 1, 2, -68, 5, 6);
    }

    private static void partnersLeftOut() {
        Due.sentence("otherwise there must follow, for each live clause with the opposite of the first literal");
        // Each may stand there, but there is no conflict, and 6 and 7 are left out.
        poked(8, longer(), 8, 1, 4, 2);
        // 9, 10 and 11 are good for nothing for partner 3, but may stand there: then there is no room for partner 4.
        ProofTrimmer x = Due.checked("p cnf 8 11 3 4 0 3 -4 0 -1 3 0 -1 5 0 5 6 0 5 -6 0 -3 -5 7 0 -3 -5 -7 0"
            + " 3 8 0 3 2 0 3 7 0", "1 0 0");
        Due.hintsDue("each for itself", x, 12, -3, 1, 2, -4, 5, 6);
        poked(12, x, 12, -3, 9, 10, 11, 1, 2);
    }

    private static void partnersAreLive() {
        Due.sentence("for each live clause with the opposite of the first literal, by number, minus its number");
        // -8 was taken before, and -8 1 comes only behind it: there is no partner.
        ProofTrimmer x = Due.checked("p cnf 8 6 1 2 0 1 -2 0 -1 2 0 -1 -2 0 -8 0 8 7 0", "d -8 0 8 0 -8 1 0 0");
        Due.hintsDue("a reason, and no partner", x, 7, 6);
        poked(7, x, 7, -5);
        poked(7, x, 7, -8);
        poked(7, x, 7, -7);
        poked(7, x, 7, -6);
    }

    private static void nothingBehindSettledPartner() {
        Due.sentence("minus its number and then nothing, if one of its other literals is true");
        ProofTrimmer x = twoPartners();
        poked(12, x, 12, 3, -1, 7, -2, 4, 5);
        // Not even a clause that would be a conflict, were -2 assumed.
        poked(12, x, 12, 3, -1, 3, -2, 4, 5);
        poked(12, x, 12, 3, -1, 1, -2, 4, 5);
    }

    private static void partnerNotSettledByHints() {
        Due.sentence("otherwise their opposites are true, too, until the next negative hint");
        // Without 3 in front nothing says 2, so that -2 is assumed, and then 3 is the conflict.
        poked(0, twoPartners(), 12, 7, -1, 3, -2, 4, 5);
        poked(12, twoPartners(), 12, 7, -1, 1, -2, 4, 5);
        poked(12, twoPartners(), 12, 7, -1, -2, 4, 5, 5);
    }

    private static void partnerMustEndWithConflict() {
        Due.sentence("and the positive hints behind must end with a conflict.");
        poked(12, twoPartners(), 12, 3, 7, -1, -2, 4, 8);
        poked(11, pivot(), 11, 1, -2, -3, 4, 6, 5);
        ProofTrimmer x = Due.checked(Samples.EACH_FOR_ITSELF, Samples.EACH_FOR_ITSELF_PROOF);
        poked(9, x, 9, -3, 1, -4, 5, 6, 6);
        poked(9, x, 9, -3, -4, 5, 6, 6, 6);
        // The parts of all partners but the last one are as they were.
        ProofTrimmer y = Samples.manyPartners();
        y.check();
        y.poke(18, 25, 3);
        verifiesTo("the last partner without a conflict", 18, y);
        y.poke(18, 25, -17);
        verifiesTo("the last partner without hints, and twice", 18, y);
    }

    private static void assumptionsEndWithNextPartner() {
        Due.sentence("otherwise their opposites are true, too, until the next negative hint");
        ProofTrimmer x = Due.checked(Samples.EACH_FOR_ITSELF, Samples.EACH_FOR_ITSELF_PROOF);
        // -3 is assumed for partner 3 only, and 4 is true there only: 1 and 2 say nothing for partner 4.
        poked(9, x, 9, -3, 1, 2, -4, 1, 2);
        poked(9, x, 9, -3, 1, 2, -4, 2, 1);
        poked(9, x, 9, -3, 1, 2, -4, 5, 2);
        poked(0, x, 9, -3, 2, 1, -4, 6, 5);
    }

    private static void nothingLeft() {
        Due.sentence("Nothing else may be left.");
        // Partner 1, the only one, is settled by 2; 3 is a reason that nothing uses.
        ProofTrimmer x = Due.checked("p cnf 8 7 -1 2 0 1 2 0 1 6 0 7 8 0 7 -8 0 -7 8 0 -7 -8 0", "1 0 -1 7 0 0");
        Due.hintsDue("one partner", x, 8, 2, 3, -1);
        poked(8, x, 8, 2, -1, 3);
        poked(8, x, 8, 2, -1, -1);
        poked(8, x, 8, 2, -1, -9);
        poked(8, x, 8, 2, -1, 0);
        poked(8, x, 8, -1, 2, 3);
        poked(0, x, 8, 3, -1, 2);
        ProofTrimmer y = Due.checked(Samples.NO_PARTNER, Samples.NO_PARTNER_PROOF);
        poked(6, y, 6, -5);
        poked(6, y, 6, -7);
        poked(6, y, 6, 0);
    }

    private static void emptyMustEndWithConflict() {
        Due.sentence("(An empty clause has no first literal: it must end with a conflict.)");
        ProofTrimmer x = Due.checked("p cnf 2 3 1 0 -1 0 2 0", "0");
        Due.hintsDue("by 1 and 2", x, 4, 1, 2);
        poked(4, x, 4, 1, 3);
        poked(4, x, 4, 3, 1);
        poked(4, x, 4, 1, -2);
        poked(4, x, 4, -1, -2);
        poked(4, x, 4, 1, 0);
        poked(4, x, 4, 0, 0);
        poked(0, x, 4, 2, 1);
    }

    private static void zeroIsNoHint() {
        Due.sentence("Nothing else may be left.");
        ProofTrimmer x = twoPartners();
        poked(12, x, 12, 0, 7, -1, -2, 4, 5);
        poked(12, x, 12, 3, 0, -1, -2, 4, 5);
        poked(12, x, 12, 3, 7, 0, -2, 4, 5);
        poked(12, x, 12, 3, 7, -1, 0, 4, 5);
        poked(12, x, 12, 3, 7, -1, -2, 0, 5);
        poked(12, x, 12, 3, 7, -1, -2, 4, 0);
        poked(12, x, 12, 0, 0, 0, 0, 0, 0);
        poked(12, twoPartners(), 12, 3, 7, -1, -2, 6, 0);
    }

    private static void thenItIsLive() {
        Due.sentence("Then it is live.");
        // 5 is a hint of 6, and 6 one of 7: each from its own step on.
        ProofTrimmer x = Due.checked(Samples.SQUARE, "1 8 0 1 -8 0 d 1 2 0 1 0 0");
        Due.hintsDue("by what was added", x, 7, 5, 6);
        verifiesTo("by what was added", 0, x);
        poked(6, x, 6, 1, 6);
        // A marked clause that is live is a partner: -8 1 of 8, when it is added before.
        ProofTrimmer y = Samples.manyPartners();
        y.check();
        y.poke(18, 0, 4);
        verifiesTo("without the added partner 5", 18, y);
    }
}
