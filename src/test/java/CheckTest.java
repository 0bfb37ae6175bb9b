/** Promise 6, promises 11 to 13, and what 'Terms' says of propagating, of what is used, and of checking. */
public final class CheckTest {
    private static final int NONE = ProofTrimmer.NONE;
    private static final int[] FAR = {Integer.MIN_VALUE, Integer.MIN_VALUE + 5, -1000, -59, -58, -6, -5, -1, 0, 7, 8,
        16, 17, 32, 33, 34, 64, 65, 68, 69, 70, 128, 1 << 16, 1 << 30, Integer.MAX_VALUE};

    public static void main(String[] args) {
        withoutProof();
        open();
        openForgets();
        wrongStep();
        wrongForgets();
        fewestMarked();
        mostMarked();
        onlyTheLastIsMarkedAtFirst();
        onlyAddedOnesAreCounted();
        atMostOneNeither();
        noTrueLiteral();
        lowestNumberFirst();
        markedFirst();
        markedFromTheNextTryOn();
        conflictWithEmptyClause();
        mostReasons();
        usedOnly();
        notLiveAnyMore();
        liveAgain();
        tookNone();
        allVariablesAssumed();
        hintsInTheirOrder();
        conflictAlone();
        emptyIsWrong();
        firstLiteralIsPivot();
        noPartner();
        noPartnerNoHint();
        partnersAreLive();
        partnerWithoutOtherLiteral();
        partnerSettledByAssumption();
        partnerSettledByReason();
        partnersLiteralFalseAlready();
        secondPartnerWrong();
        eachPartnerForItself();
        markedAfterTheLastPartner();
        reasonsOnlyThen();
        allReasonsOfTheFirst();
        mostHints();
        marksOfNoClause();
        hintsOfNoClause();
        noSuchHint();
        checkedAgain();
        checkedMostTimes();
        mostHintsForgotten();
        throwingLeavesEverything();
        Due.end();
    }

    private static ProofTrimmer checksTo(int due, String formula, String proof) {
        ProofTrimmer x = Due.of(formula, proof);
        Due.due("check() of " + proof, Due.answer(x::check), due);
        return x;
    }

    private static void withoutProof() {
        Due.sentence("IllegalStateException when there is no proof.");
        Due.due("a new object", Due.answer(new ProofTrimmer()::check), Due.STATE);
        Due.due("a formula alone", Due.answer(Due.of(Samples.SQUARE)::check), Due.STATE);
        ProofTrimmer x = Due.checked(Samples.SQUARE, "1 0 0");
        Due.type(x, Samples.SQUARE);
        x.formula();
        Due.due("a formula after a proof", Due.answer(x::check), Due.STATE);
        Due.type(x, "1 0 x");
        Due.answer(() -> x.proof(false));
        Due.due("a refused proof", Due.answer(x::check), Due.STATE);
        x.wipe();
        x.proof(false);
        Due.due("an empty proof is one", Due.answer(x::check), NONE);
    }

    private static void open() {
        Due.sentence("NONE, and nothing is checked, when it is open");
        Due.nothingChecked("no step", checksTo(NONE, Samples.SQUARE, ""));
        Due.nothingChecked("no empty clause", checksTo(NONE, Samples.SQUARE, "1 0 2 0"));
        Due.nothingChecked("a deleted empty clause", checksTo(NONE, "p cnf 1 1 0", "d 0"));
        Due.nothingChecked("an empty clause in the formula", checksTo(NONE, "p cnf 1 1 0", "1 0"));
        Due.nothingChecked("sixteen steps", checksTo(NONE, Samples.SQUARE, "1 0 ".repeat(16)));
        // Nobody asks whether its clauses are right.
        Due.nothingChecked("no right clause", checksTo(NONE, "p cnf 1 1 -1 0", "1 0"));
    }

    private static void openForgets() {
        Due.sentence("NONE, and nothing is checked, when it is open");
        ProofTrimmer x = Due.checked(Samples.SQUARE, "1 0 0");
        Due.type(x, "1 0 d 0 2 0");
        x.proof(false);
        Due.due("check()", Due.answer(x::check), NONE);
        Due.nothingChecked("open", x);
        Due.due("clauses()", x.clauses(), 6);
        Due.due("check() again", Due.answer(x::check), NONE);
    }

    private static void wrongStep() {
        Due.sentence("minus the number of a clause's step (from 1, in the proof)");
        checksTo(-1, "p cnf 1 1 1 0", "0");
        checksTo(-2, "p cnf 1 1 1 0", "d 7 0 0");
        checksTo(-16, "p cnf 1 1 1 0", "d 7 0 ".repeat(15) + "0");
        // Without 1 2 nothing tells 1: clause 6, of the third step.
        checksTo(-3, Samples.SQUARE, "d 1 2 0 8 0 1 0 d 8 0 0");
        // Both 2 and 3 are needed and wrong: the one that was added last is tried first.
        checksTo(-2, "p cnf 2 1 -1 -2 0", "1 0 2 0 0");
    }

    private static void wrongForgets() {
        Due.sentence("and nothing is checked, when this clause is wrong.");
        ProofTrimmer x = Due.checked(Samples.SQUARE, "1 0 0");
        Due.type(x, "d 1 2 0 8 0 1 0 d 8 0 0");
        x.proof(false);
        Due.due("check()", Due.answer(x::check), -3);
        Due.nothingChecked("wrong", x);
        Due.due("clauses()", x.clauses(), 7);
        Due.stepsDue("the steps stay", x, 1, 5, 6, 5, 7);
        Due.due("check() again", Due.answer(x::check), -3);
    }

    private static void fewestMarked() {
        Due.sentence("how many clauses that its steps added are marked");
        Due.marksDue("one", checksTo(1, "p cnf 1 1 0", "0"), 1, 2);
        Due.marksDue("one of sixteen", checksTo(1, "p cnf 1 1 0", "1 0 ".repeat(15) + "0"), 1, 17);
    }

    private static void mostMarked() {
        Due.sentence("how many clauses that its steps added are marked");
        Due.due("sixteen of 20", Due.answer(Samples.manyPartners()::check), 16);
        Due.due("sixteen of 32", Due.answer(Samples.manyHints()::check), 16);
    }

    private static void onlyTheLastIsMarkedAtFirst() {
        Due.sentence("at first only the last clause, the empty one, is MARKED.");
        // 6 would be wrong, since its partner 5 can't be settled, but it is not needed.
        checksTo(2, "p cnf 8 5 1 2 0 -1 2 0 1 -2 0 -1 -2 0 -8 6 0", "8 7 0 1 0 0");
        ProofTrimmer x = checksTo(2, Samples.SQUARE, "-1 2 0 -2 0 d -2 0 1 0 0 d 1 0 8 0");
        Due.marksDue("unneeded", x, 1, 2, 3, 4, 7, 8);
        Due.hintsDue("unneeded", x, 5);
        Due.hintsDue("unneeded", x, 6);
        Due.hintsDue("unneeded", x, 7, 1, 3);
        Due.hintsDue("unneeded", x, 8, 7, 2, 4);
    }

    private static void onlyAddedOnesAreCounted() {
        Due.sentence("how many clauses that its steps added are marked");
        ProofTrimmer x = checksTo(2, Samples.SQUARE, "1 0 0");
        Due.marksDue("the formula is marked, too", x, 1, 2, 3, 4, 5, 6);
        for (int c = 1; c <= 4; c++) {
            Due.hintsDue("no hints for the formula", x, c);
        }
    }

    private static void atMostOneNeither() {
        Due.sentence("a live clause that has no true literal and at most one that is neither");
        Due.hintsDue("two in 1 at first", checksTo(1, "p cnf 2 3 1 2 0 -1 0 -2 0", "0"), 4, 2, 1, 3);
        checksTo(-1, Samples.SQUARE, "0");
    }

    private static void noTrueLiteral() {
        Due.sentence("a live clause that has no true literal and at most one that is neither");
        // 2 would make 2 true if it were taken, and then 3 a conflict.
        Due.hintsDue("1 is true in 2", checksTo(1, "p cnf 3 5 1 0 1 2 0 -2 -1 0 2 -1 3 0 -3 0", "0"), 6, 1, 3, 4, 5);
    }

    private static void lowestNumberFirst() {
        Due.sentence("in this order: marked clauses by their numbers, then the others by theirs.");
        // 3 and 4 would be a conflict as well.
        Due.hintsDue("by number", checksTo(1, "p cnf 2 4 2 0 -2 0 1 0 -1 0", "0"), 5, 1, 2);
        // After each reason it is the lowest number again: 1 behind 2, and not 3.
        Due.hintsDue("from the first one again", checksTo(1, "p cnf 2 4 -1 2 0 1 0 -2 0 -1 0", "0"), 5, 2, 1, 3);
    }

    private static void markedFirst() {
        Due.sentence("in this order: marked clauses by their numbers, then the others by theirs.");
        ProofTrimmer x = checksTo(3, Samples.TWO_WAYS, Samples.TWO_WAYS_PROOF);
        Due.hintsDue("the empty one", x, 9, 5, 7, 6, 8);
        // 3 and 4 come before 1 and 2, which are live, too, but not marked.
        Due.hintsDue("with 3 and 4 marked", x, 7, 3, 4);
        Due.marksDue("1 and 2 are not needed", x, 3, 4, 5, 6, 7, 8, 9);
    }

    private static void markedFromTheNextTryOn() {
        Due.sentence("(Clauses marked meanwhile count as marked from the next try on.");
        ProofTrimmer x = checksTo(3, Samples.TWO_WAYS, Samples.TWO_WAYS_PROOF);
        Due.hintsDue("the try that marks 3 and 4", x, 8, 3, 4);
        Due.hintsDue("the next try", x, 7, 3, 4);
        // With 1 and 2 still there when 8 is added, these are marked by its try.
        ProofTrimmer y = checksTo(3, Samples.TWO_WAYS, "1 5 0 1 6 0 d 1 2 0 d 1 -2 0 d 3 1 0 d 1 -3 0 0");
        Due.hintsDue("the try that marks 1 and 2", y, 8, 1, 2);
        Due.hintsDue("the next try", y, 7, 1, 2);
    }

    private static void conflictWithEmptyClause() {
        Due.sentence("If all its literals are false, there is a CONFLICT with it.");
        ProofTrimmer x = checksTo(1, "p cnf 1 2 1 0 0", "0");
        Due.hintsDue("an empty clause", x, 3, 2);
        Due.marksDue("an empty clause", x, 2, 3);
        Due.hintsDue("the first of two", checksTo(1, "p cnf 1 2 0 0", "0"), 3, 1);
        Due.hintsDue("when one of them is taken", checksTo(1, "p cnf 1 2 0 0", "d 0 0"), 3, 1);
        checksTo(-3, "p cnf 1 2 0 0", "d 0 d 0 0");
    }

    private static void mostReasons() {
        Due.sentence("Otherwise the one that is neither becomes true, and the clause is its REASON.");
        ProofTrimmer x = checksTo(1, Samples.EIGHT_REASONS, "0");
        Due.hintsDue("eight reasons", x, 10, 1, 2, 3, 4, 5, 6, 7, 8, 9);
        ProofTrimmer y = checksTo(-1, "p cnf 8 8 1 0 2 0 3 0 4 0 5 0 6 0 7 0 8 0", "0");
        Due.nothingChecked("eight reasons and no conflict", y);
    }

    private static void usedOnly() {
        Due.sentence("with each literal that is false in a used clause, the reason of its opposite, if it has one.");
        // 1 and 3 become reasons before the conflict, but nothing in it comes from them.
        ProofTrimmer x = checksTo(1, "p cnf 5 5 3 0 1 0 -3 4 0 -1 2 0 -1 -2 0", "0");
        Due.hintsDue("used", x, 6, 2, 4, 5);
        Due.marksDue("used", x, 2, 4, 5, 6);
        // 1 is assumed for the clause -1: it has no reason there, though clause 1 says the same.
        ProofTrimmer y = checksTo(2, "p cnf 3 3 1 0 -1 2 0 -1 -2 0", "-1 0 d 2 -1 0 0");
        Due.hintsDue("assumed", y, 4, 2, 3);
        Due.hintsDue("assumed", y, 5, 1, 4);
    }

    private static void notLiveAnyMore() {
        Due.sentence("At a step that added one, this is not live any more; if it is marked, it is tried");
        checksTo(-1, "p cnf 1 1 -1 0", "1 0 0");
        // The later 3 is alike 2, but not there yet when 2 is tried.
        checksTo(-1, "p cnf 1 1 -1 0", "1 0 1 0 0");
        Due.hintsDue("a clause alike is enough", checksTo(1, "p cnf 1 2 -1 0 1 0", "1 0 0"), 4, 1, 2);
    }

    private static void liveAgain() {
        Due.sentence("At a step that took a clause, this is live again.");
        ProofTrimmer x = checksTo(2, Samples.SQUARE, "1 0 d 1 2 0 d 1 -2 0 0");
        Due.hintsDue("5 by what was taken later", x, 5, 1, 3);
        Due.hintsDue("the empty one without it", x, 6, 5, 2, 4);
        checksTo(-2, Samples.SQUARE, "d 1 2 0 1 0 0");
        checksTo(-3, Samples.SQUARE, "1 0 d 1 0 0");
        // 5 is taken before 8, and live for 7 and 6.
        ProofTrimmer y = checksTo(5, Samples.SQUARE, "1 0 d 1 2 0 1 8 0 1 -8 0 d 1 0 1 0 0");
        Due.hintsDue("an added one taken", y, 8, 6, 7);
        Due.hintsDue("an added one live again", y, 7, 5);
        Due.hintsDue("an added one live again", y, 6, 5);
    }

    private static void tookNone() {
        Due.sentence("At a step that took a clause, this is live again.");
        Due.marksDue("three steps took none", checksTo(1, "p cnf 2 2 1 0 -1 0", "d 2 0 d 0 d 2 0 0"), 1, 2, 3);
        checksTo(-3, "p cnf 2 1 -2 0", "d 2 0 d 2 0 0");
    }

    private static void allVariablesAssumed() {
        Due.sentence("The opposites of its literals are assumed true (they have no reasons), and it is propagated.");
        ProofTrimmer x = Samples.manyPartners();
        Due.due("check()", Due.answer(x::check), 16);
        for (int c = 5; c <= 17; c++) {
            Due.hintsDue("eight literals", x, c, 4);
        }
    }

    private static void hintsInTheirOrder() {
        Due.sentence("in the order in which they became reasons, and at last the conflict's.");
        ProofTrimmer x = checksTo(2, "p cnf 4 5 -4 -2 0 -3 4 0 -2 3 0 1 2 0 -1 2 0", "1 0 0");
        Due.hintsDue("4 became one first", x, 6, 4, 1, 2, 3);
        Due.hintsDue("6 became one first", x, 7, 6, 5, 1, 2, 3);
    }

    private static void conflictAlone() {
        Due.sentence("If there is a conflict, the clause is DERIVED: all used clauses are marked");
        ProofTrimmer x = checksTo(2, "p cnf 2 3 1 0 -1 0 -2 0", "1 2 0 d 1 0 0");
        Due.hintsDue("no reason", x, 4, 1);
        Due.hintsDue("two reasons", x, 5, 2, 3, 4);
        Due.marksDue("no reason", x, 1, 2, 3, 4, 5);
    }

    private static void emptyIsWrong() {
        Due.sentence("Otherwise, if it is empty, it is WRONG.");
        checksTo(-1, "p cnf 1 0", "0");
        checksTo(-2, "p cnf 1 0", "8 0 0");
        checksTo(-1, "p cnf 2 1 1 2 0", "0");
        checksTo(-1, Samples.SQUARE, "0");
    }

    private static void firstLiteralIsPivot() {
        Due.sentence("Otherwise its first literal is its PIVOT");
        ProofTrimmer x = checksTo(2, Samples.PIVOT, "1 2 0 0");
        Due.hintsDue("1 first", x, 11, 1, -2, -3, 4, 6, 7);
        Due.hintsDue("1 first", x, 12, 8, 11, 3, 9, 10);
        Due.marksDue("1 first", x, 1, 2, 3, 4, 6, 7, 8, 9, 10, 11, 12);
        // From 2 on the clause -2 can't be settled.
        checksTo(-1, Samples.PIVOT, "2 1 0 0");
    }

    private static void noPartner() {
        Due.sentence("If all are settled, all partners are marked, too, and all reasons of the first propagation.");
        ProofTrimmer x = checksTo(3, Samples.NO_PARTNER, Samples.NO_PARTNER_PROOF);
        Due.hintsDue("no partner", x, 6, 5);
        Due.hintsDue("no partner", x, 7, 1, 2);
        Due.hintsDue("no partner", x, 8, 6, 7, 3, 4);
        // 5 is marked although no conflict used it.
        Due.marksDue("no partner", x, 1, 2, 3, 4, 5, 6, 7, 8);
    }

    private static void noPartnerNoHint() {
        Due.sentence("How many hints clause c has; 0 when it has none, or is none.");
        ProofTrimmer x = checksTo(3, Samples.SQUARE, "8 0 -8 1 0 0");
        Due.hintsDue("no hint", x, 5);
        Due.due("marked(5)", x.marked(5), true);
        Due.due("poke(5, 0, 1)", x.poke(5, 0, 1), false);
    }

    private static void partnersAreLive() {
        Due.sentence("all live clauses with the opposite of the pivot are its PARTNERS.");
        String formula = "p cnf 8 5 1 2 0 1 -2 0 -1 2 0 -1 -2 0 -8 0";
        checksTo(-1, formula, "8 0 -8 1 0 0");
        Due.hintsDue("taken before", checksTo(3, formula, "d -8 0 8 0 -8 1 0 0"), 6);
        // Taken only later, it is a partner still; for the empty one it would be a conflict.
        checksTo(-1, formula, "8 0 d -8 0 -8 1 0 0");
        // Not marked by anything else, 5 is a partner all the same.
        ProofTrimmer x = Samples.manyPartners();
        x.check();
        Due.due("hint(18, 0)", x.hint(18, 0), -5);
        Due.due("marked(17)", x.marked(17), true);
    }

    private static void partnerWithoutOtherLiteral() {
        Due.sentence("if there is no conflict, the clause is WRONG");
        checksTo(-1, "p cnf 2 2 -1 2 0 -2 0", "2 0 0");
        checksTo(-1, "p cnf 2 2 -2 0 -1 0", "2 1 0 0");
    }

    private static void partnerSettledByAssumption() {
        Due.sentence("If one of the partner's other literals is true before that, it is settled.");
        ProofTrimmer x = checksTo(5, "p cnf 8 5 1 2 0 -1 2 0 1 -2 0 -1 -2 0 -8 -7 0",
            "8 7 0 -8 1 0 -7 1 0 d 1 2 0 1 0 0");
        Due.hintsDue("-7 is assumed", x, 6, -5);
        Due.hintsDue("-7 is assumed", x, 7, 1, 3);
        Due.hintsDue("-7 is assumed", x, 8, 1, 3);
        Due.hintsDue("-7 is assumed", x, 9, 7, 6, 8);
        Due.hintsDue("-7 is assumed", x, 10, 9, 2, 4);
        Due.marksDue("-7 is assumed", x, 1, 2, 3, 4, 5, 6, 7, 8, 9, 10);
    }

    private static void partnerSettledByReason() {
        Due.sentence("If one of the partner's other literals is true before that, it is settled.");
        ProofTrimmer x = checksTo(3, Samples.TWO_PARTNERS, Samples.TWO_PARTNERS_PROOF);
        Due.hintsDue("2 is true by 3", x, 12, 3, 7, -1, -2, 4, 5);
        Due.hintsDue("2 is true by 3", x, 13, 8, 9);
        Due.hintsDue("2 is true by 3", x, 14, 12, 13, 10, 11);
        Due.marksDue("2 is true by 3", x, 1, 2, 3, 4, 5, 7, 8, 9, 10, 11, 12, 13, 14);
    }

    private static void partnersLiteralFalseAlready() {
        Due.sentence("the opposites of the partner's other literals are assumed true as well.");
        ProofTrimmer x = checksTo(3, "p cnf 5 6 -1 2 3 0 1 -2 0 3 4 0 3 -4 0 -3 5 0 -3 -5 0", "1 0 -1 3 0 0");
        Due.hintsDue("2 is false by 2", x, 7, 2, -1, 3, 4);
        Due.hintsDue("2 is false by 2", x, 8, 3, 4);
        Due.hintsDue("2 is false by 2", x, 9, 7, 8, 5, 6);
        Due.marksDue("2 is false by 2", x, 1, 2, 3, 4, 5, 6, 7, 8, 9);
        // All of them false already: nothing is new, so that there is no conflict.
        checksTo(-1, "p cnf 5 6 -1 2 0 1 -2 0 3 4 0 3 -4 0 -3 5 0 -3 -5 0", "1 0 -1 3 0 0");
    }

    private static void secondPartnerWrong() {
        Due.sentence("if there is no conflict, the clause is WRONG");
        ProofTrimmer x = checksTo(-1, "p cnf 4 5 -1 2 0 -1 3 0 2 4 0 2 -4 0 -3 0", "1 0 0");
        Due.nothingChecked("the first one settled, the second one not", x);
    }

    private static void eachPartnerForItself() {
        Due.sentence("In the tries for partners each starts from the assignment reached by the first propagation.)");
        ProofTrimmer x = checksTo(2, Samples.EACH_FOR_ITSELF, Samples.EACH_FOR_ITSELF_PROOF);
        Due.hintsDue("each for itself", x, 9, -3, 1, 2, -4, 5, 6);
        Due.hintsDue("each for itself", x, 10, 9, 3, 4, 7, 8);
    }

    private static void markedAfterTheLastPartner() {
        Due.sentence("(reasons of the first propagation too) is marked, but only after the last partner.");
        // For partner 1 the clauses 5, 7 and 8 are used. Were they marked then, partner 2 would take 7 before 3.
        String formula = "p cnf 8 9 -1 2 0 -1 3 0 -6 8 3 0 -6 -8 3 0 2 6 0 3 6 0 -6 7 0 -6 -7 0 -2 -3 0";
        ProofTrimmer x = checksTo(2, formula, "1 0 0");
        Due.hintsDue("two partners", x, 10, -1, 5, 7, 8, -2, 6, 3, 4);
        Due.hintsDue("two partners", x, 11, 10, 1, 2, 9);
        Due.marksDue("two partners", x, 1, 2, 3, 4, 5, 6, 7, 8, 9, 10, 11);
    }

    private static void reasonsOnlyThen() {
        Due.sentence("the used reasons that became so only then, in their order, and the conflict's number.");
        // For partner 3, 1 is used, but was a reason before; 4, 5 and 6 become so only then, and 5 is not used.
        Due.hintsDue("4 and 6", checksTo(2, Samples.PIVOT, Samples.PIVOT_PROOF), 11, 1, -2, -3, 4, 6, 7);
    }

    private static void allReasonsOfTheFirst() {
        Due.sentence("The hints are: the numbers of all reasons of the first propagation, in their order");
        // By 4 a literal is true that 2 needs: first 4, then 2; neither is used for partner 1.
        ProofTrimmer x = checksTo(3, "p cnf 8 9 -1 3 5 0 1 -6 2 0 3 4 0 1 6 0 5 3 -4 0 7 8 0 7 -8 0 -7 8 0 -7 -8 0",
            "1 0 -1 7 0 0");
        Due.hintsDue("4 before 2", x, 10, 4, 2, -1, 3, 5);
        Due.due("marked(2)", x.marked(2), true);
        Due.due("marked(4)", x.marked(4), true);
    }

    private static void mostHints() {
        Due.sentence("then for each partner, by number, minus its number, and, if it was propagated for");
        ProofTrimmer x = Samples.manyHints();
        Due.due("check()", Due.answer(x::check), 16);
        int[] hints = new int[21 * 8];
        for (int i = 0; i < hints.length; i++) {
            hints[i] = i % 8 == 0 ? -10 - i / 8 : i % 8;
        }
        for (int c = 17; c <= 30; c++) {
            // 10 would be a conflict at once, but 1, and then 2 and so on, have smaller numbers.
            Due.hintsDue("many hints", x, c, 1, 2, 3, 4, 5, 6, 7);
        }
        Due.hintsDue("many hints", x, 31, hints);
        Due.hintsDue("many hints", x, 32, 31, 10, 8, 9);
        Due.due("verify()", Due.answer(x::verify), 0);
    }

    private static void marksOfNoClause() {
        Due.sentence("Whether clause c is marked by the latest check; false when nothing is checked.");
        ProofTrimmer x = Due.checked(Samples.SQUARE, "1 0 0");
        for (int c : FAR) {
            Due.due("marked(" + c + ")", x.marked(c), false);
        }
        ProofTrimmer y = Due.of(Samples.SQUARE, "1 0 0");
        Due.marksDue("before the check", y);
        y.check();
        Due.marksDue("after the check", y, 1, 2, 3, 4, 5, 6);
        Due.type(y, "2 0 0");
        y.proof(false);
        Due.marksDue("with a new proof", y);
    }

    private static void hintsOfNoClause() {
        Due.sentence("How many hints clause c has; 0 when it has none, or is none.");
        ProofTrimmer x = Due.of(Samples.SQUARE, "1 0 0");
        Due.due("hints(6) before the check", x.hints(6), 0);
        x.check();
        Due.due("hints(5)", x.hints(5), 2);
        Due.due("hints(6)", x.hints(6), 3);
        Due.due("hints(4), of the formula", x.hints(4), 0);
        for (int c : FAR) {
            Due.due("hints(" + c + ")", x.hints(c), 0);
        }
    }

    private static void noSuchHint() {
        Due.sentence("Hint k (from 0) of clause c; 0 when there is none.");
        ProofTrimmer x = Due.of(Samples.SQUARE, "1 0 0");
        Due.due("hint(6, 0) before the check", x.hint(6, 0), 0);
        x.check();
        Due.hintsDue("from 0 on", x, 5, 1, 3);
        Due.hintsDue("from 0 on", x, 6, 5, 2, 4);
        Due.due("hint(4, 0), of the formula", x.hint(4, 0), 0);
        for (int far : FAR) {
            Due.due("hint(" + far + ", 0)", x.hint(far, 0), 0);
            Due.due("hint(" + far + ", " + far + ")", x.hint(far, far), 0);
            if (far != 0) {
                Due.due("hint(5, " + far + ")", x.hint(5, far), 0);
                Due.due("hint(6, " + far + ")", x.hint(6, far), 0);
            }
        }
    }

    private static void checkedAgain() {
        Due.sentence("Checks the proof: how many clauses that its steps added are marked");
        ProofTrimmer x = Due.checked(Samples.PIVOT, "1 2 0 0");
        x.poke(11, 0, 77);
        x.poke(12, 4, -77);
        Due.due("check() again", Due.answer(x::check), 2);
        Due.hintsDue("again", x, 11, 1, -2, -3, 4, 6, 7);
        Due.hintsDue("again", x, 12, 8, 11, 3, 9, 10);
        Due.due("verify()", Due.answer(x::verify), 0);
    }

    private static void checkedMostTimes() {
        Due.sentence("An object is used for at most 512 calls after it has been made");
        ProofTrimmer x = Samples.manyHints();
        for (int i = 1; i <= 100; i++) {
            Due.due("check() for time " + i, Due.answer(x::check), 16);
            Due.due("hints(31) for time " + i, x.hints(31), 168);
            Due.due("hint(31, 167) for time " + i, x.hint(31, 167), 7);
        }
        Due.hintsDue("at last", x, 17, 1, 2, 3, 4, 5, 6, 7);
        Due.hintsDue("at last", x, 32, 31, 10, 8, 9);
        Due.due("verify() at last", Due.answer(x::verify), 0);
    }

    private static void mostHintsForgotten() {
        Due.sentence("The text is the proof from now on, and is empty then; nothing is checked");
        ProofTrimmer x = Samples.manyHints();
        x.check();
        x.proof(false);
        Due.nothingChecked("a new proof behind all that can be", x);
        ProofTrimmer y = Samples.manyHints();
        y.check();
        Due.type(y, "p cnf 1 0");
        y.formula();
        Due.nothingChecked("a new formula behind all that can be", y);
    }

    private static void throwingLeavesEverything() {
        Due.sentence("What throws leaves everything as it was");
        ProofTrimmer x = Due.checked("p cnf 1 2 1 0 -1 0", "0");
        x.write();
        Due.type(x, "p cnf 2 1 2 0");
        x.formula();
        Due.type(x, "xyz");
        Due.refusedDue("check()", x, x::check, Due.STATE);
        Due.due("the text", x.wipe(), 3);
    }
}
