/** Promises 7 to 10: which clauses and steps there are, and what 'Terms' says of numbers and of live clauses. */
public final class CountingTest {
    private static final int NONE = ProofTrimmer.NONE;
    private static final int[] FAR = {Integer.MIN_VALUE, Integer.MIN_VALUE + 1, -1000, -65, -64, -33, -1, 64, 65, 66,
        1000, 1 << 16, 1 << 28, 1 << 29, Integer.MAX_VALUE};

    public static void main(String[] args) {
        clausesWithoutFormula();
        clausesWithoutProof();
        clausesThatCount();
        clausesOfOpenProof();
        fewestClauses();
        mostClauses();
        noSuchClause();
        noSuchLiteral();
        noSuchStep();
        noStepAtAll();
        lastStepThatCounts();
        deletedEmptyClauseEndsNothing();
        emptyClauseOfFormulaEndsNothing();
        allStepsOfOpenProof();
        takesTheGreatest();
        takesAnyOrder();
        takesOnlyTheSame();
        takesNone();
        stepThatTookNone();
        takesNothingTwice();
        takesNothingThatComesLater();
        takesEmptyClauses();
        Due.end();
    }

    private static void clausesWithoutFormula() {
        Due.sentence("0 without a formula.");
        ProofTrimmer x = new ProofTrimmer();
        Due.due("clauses()", x.clauses(), 0);
        Due.type(x, "p cnf 1 1 1");
        Due.answer(x::formula);
        Due.due("clauses() after a refused formula()", x.clauses(), 0);
    }

    private static void clausesWithoutProof() {
        Due.sentence("How many clauses there are, those of the formula and those added by steps that count");
        Due.due("clauses() of none", Due.of("p cnf 1 0").clauses(), 0);
        Due.due("clauses() of one", Due.of("p cnf 1 1 0").clauses(), 1);
        Due.due("clauses() of sixteen", Due.of("p cnf 1 16" + " 0".repeat(16)).clauses(), 16);
    }

    private static void clausesThatCount() {
        Due.sentence("all up to the first one that adds an empty clause.");
        Due.due("clauses() of 2 and an empty one", Due.of("p cnf 2 2 1 0 2 0", "1 0 0 2 0 0 1 0").clauses(), 4);
        Due.due("clauses() of 2 and an empty one at first", Due.of("p cnf 2 2 1 0 2 0", "0 0 0").clauses(), 3);
        Due.due("clauses() with a deleted one", Due.of("p cnf 2 2 1 0 2 0", "d 1 0 0 d 2 0").clauses(), 3);
    }

    private static void clausesOfOpenProof() {
        Due.sentence("(by all steps, when the proof is open)");
        Due.due("clauses() of no step", Due.of("p cnf 2 2 1 0 2 0", "").clauses(), 2);
        Due.due("clauses() of three steps", Due.of("p cnf 2 2 1 0 2 0", "1 0 d 1 0 2 0").clauses(), 4);
        Due.due("clauses() of deleting steps", Due.of("p cnf 2 2 1 0 2 0", "d 1 0 d 2 0 d 0").clauses(), 2);
    }

    private static void fewestClauses() {
        Due.sentence("those of the formula 1 .. C, those that the proof's steps add the next ones in order");
        ProofTrimmer x = Due.of("p cnf 1 0", "3 0 d 3 0 -4 5 0 0");
        Due.due("clauses()", x.clauses(), 3);
        Due.stepsDue("no clause in the formula", x, 1, 1, 2, 3);
        Due.due("literal(1, 0)", x.literal(1, 0), 3);
        Due.due("literal(2, 0)", x.literal(2, 0), -4);
        Due.due("literal(2, 1)", x.literal(2, 1), 5);
        Due.due("size(3)", x.size(3), 0);
    }

    private static void mostClauses() {
        Due.sentence("those of the formula 1 .. C, those that the proof's steps add the next ones in order");
        StringBuilder steps = new StringBuilder();
        for (int s = 1; s <= 16; s++) {
            steps.append(s % 2 == 0 ? "-" : "").append((s + 1) / 2).append(" 0\n");
        }
        ProofTrimmer x = Due.of("p cnf 2 16" + " 1 2 0".repeat(16), steps.toString());
        Due.due("clauses()", x.clauses(), 32);
        for (int s = 1; s <= 16; s++) {
            Due.due("step(" + s + ")", x.step(s), 16 + s);
            Due.due("size(" + (16 + s) + ")", x.size(16 + s), 1);
            Due.due("literal(" + (16 + s) + ", 0)", x.literal(16 + s, 0), s % 2 == 0 ? -s / 2 : (s + 1) / 2);
        }
        Due.due("size(16)", x.size(16), 2);
        Due.due("size(33)", x.size(33), NONE);
        Due.due("step(17)", x.step(17), NONE);
    }

    private static void noSuchClause() {
        Due.sentence("How many literals clause c has; NONE when there is none such.");
        ProofTrimmer x = Due.of("p cnf 3 2 1 2 3 0 0", "1 2 0 0 3 0");
        int[] sizes = {NONE, 3, 0, 2, 0, NONE, NONE};
        for (int c = 0; c < sizes.length; c++) {
            Due.due("size(" + c + ")", x.size(c), sizes[c]);
        }
        for (int c : FAR) {
            Due.due("size(" + c + ")", x.size(c), NONE);
        }
    }

    private static void noSuchLiteral() {
        Due.sentence("Literal k (from 0) of clause c; 0 when there is none.");
        ProofTrimmer x = Due.of("p cnf 8 3 3 -1 8 0 0 8 7 6 5 4 3 2 1 0", "-7 2 0 0 3 0");
        int[][] literals = {{}, {3, -1, 8}, {}, {8, 7, 6, 5, 4, 3, 2, 1}, {-7, 2}, {}, {}};
        for (int c = 0; c < literals.length; c++) {
            Due.due("literal(" + c + ", -1)", x.literal(c, -1), 0);
            for (int k = 0; k <= 9; k++) {
                int due = k < literals[c].length ? literals[c][k] : 0;
                Due.due("literal(" + c + ", " + k + ")", x.literal(c, k), due);
            }
        }
        for (int far : FAR) {
            Due.due("literal(" + far + ", 0)", x.literal(far, 0), 0);
            Due.due("literal(" + far + ", " + far + ")", x.literal(far, far), 0);
            Due.due("literal(1, " + far + ")", x.literal(1, far), 0);
            Due.due("literal(3, " + far + ")", x.literal(3, far), 0);
        }
    }

    private static void noSuchStep() {
        Due.sentence("NONE when there is no such step that counts.");
        ProofTrimmer x = Due.of("p cnf 1 1 1 0", "1 0 0 1 0");
        Due.stepsDue("two that count", x, 2, 3);
        for (int s : FAR) {
            Due.due("step(" + s + ")", x.step(s), NONE);
        }
    }

    private static void noStepAtAll() {
        Due.sentence("NONE when there is no such step that counts.");
        Due.stepsDue("no formula", new ProofTrimmer());
        Due.stepsDue("no proof", Due.of("p cnf 1 1 1 0"));
        Due.stepsDue("an empty proof", Due.of("p cnf 1 1 1 0", ""));
    }

    private static void lastStepThatCounts() {
        Due.sentence("all up to the first one that adds an empty clause.");
        Due.stepsDue("at first", Due.of("p cnf 1 1 1 0", "0 1 0 0"), 2);
        Due.stepsDue("in the middle", Due.of("p cnf 1 1 1 0", "1 0 0 d 1 0 0"), 2, 3);
        Due.stepsDue("at last", Due.of("p cnf 1 1 1 0", "1 0 d 1 0 d 1 0 0"), 2, 2, 1, 3);
        ProofTrimmer x = Due.of("p cnf 1 1 1 0", "1 0 ".repeat(15) + "0");
        Due.due("the sixteenth step", x.step(16), 17);
        Due.due("clauses()", x.clauses(), 17);
    }

    private static void deletedEmptyClauseEndsNothing() {
        Due.sentence("all up to the first one that adds an empty clause.");
        ProofTrimmer x = Due.of("p cnf 1 1 1 0", "d 0 1 0 d 0 0 1 0");
        Due.stepsDue("d 0", x, 0, 2, 0, 3);
        Due.due("clauses()", x.clauses(), 3);
    }

    private static void emptyClauseOfFormulaEndsNothing() {
        Due.sentence("If there is none, the proof is OPEN.");
        ProofTrimmer x = Due.of("p cnf 1 1 0", "1 0 -1 0");
        Due.stepsDue("an empty clause in the formula", x, 2, 3);
        Due.due("check()", Due.answer(x::check), NONE);
    }

    private static void allStepsOfOpenProof() {
        Due.sentence("(All steps count in an open proof.)");
        Due.stepsDue("open", Due.of("p cnf 2 2 1 0 2 1 0", "5 0 d 1 2 0 d 0 6 0"), 3, 2, 0, 4);
        ProofTrimmer x = Due.of("p cnf 1 0", "1 0 d 1 0 ".repeat(8));
        Due.stepsDue("sixteen", x, 1, 1, 2, 2, 3, 3, 4, 4, 5, 5, 6, 6, 7, 7, 8, 8);
    }

    private static void takesTheGreatest() {
        Due.sentence("of the live clauses that are alike its own, the one with the greatest number");
        Due.stepsDue("two in the formula", Due.of("p cnf 2 3 1 2 0 1 2 0 1 0", "d 1 2 0 d 1 2 0"), 2, 1);
        Due.stepsDue("one of them added", Due.of("p cnf 2 1 1 2 0", "1 2 0 d 1 2 0 d 1 2 0"), 2, 2, 1);
        Due.stepsDue("added again", Due.of("p cnf 2 1 1 2 0", "1 2 0 d 1 2 0 1 2 0 d 1 2 0 d 1 2 0"), 2, 2, 3, 3, 1);
        ProofTrimmer x = Due.of("p cnf 1 16" + " 1 0".repeat(16), "d 1 0 ".repeat(16));
        for (int s = 1; s <= 16; s++) {
            Due.due("sixteen alike: step(" + s + ")", x.step(s), 17 - s);
        }
    }

    private static void takesAnyOrder() {
        Due.sentence("Two clauses are ALIKE if they have the same literals in any order.");
        Due.stepsDue("turned", Due.of("p cnf 3 2 1 -2 3 0 3 1 -2 0", "d -2 3 1 0 d -2 1 3 0 d 1 -2 3 0"), 2, 1, 0);
        Due.stepsDue("all eight", Due.of("p cnf 8 1 1 2 3 4 5 6 7 8 0", "d 8 6 4 2 1 3 5 7 0"), 1);
    }

    private static void takesOnlyTheSame() {
        Due.sentence("Two clauses are ALIKE if they have the same literals in any order.");
        Due.stepsDue("others", Due.of("p cnf 3 1 1 -2 0", "d 1 0 d -2 0 d 1 2 0 d -1 2 0 d 1 -2 3 0 d 0 d 1 -2 0"),
            0, 0, 0, 0, 0, 0, 1);
        Due.stepsDue("one sign", Due.of("p cnf 8 1 1 2 3 4 5 6 7 8 0", "d 1 2 3 4 5 6 7 -8 0 d 1 2 3 4 5 6 7 0"), 0, 0);
    }

    private static void takesNone() {
        Due.sentence("(it takes none if there is none)");
        Due.stepsDue("nothing live", Due.of("p cnf 1 0", "d 1 0 d 0 0"), 0, 0, 1);
        Due.stepsDue("nothing alike", Due.of("p cnf 1 1 1 0", "d -1 0"), 0);
    }

    private static void stepThatTookNone() {
        Due.sentence("The number of the clause that step s (from 1) added, or took (0 when it took none)");
        // 0 is not NONE: the step is there.
        ProofTrimmer x = Due.of("p cnf 1 1 1 0", "d -1 0 -1 0 d -1 0 0 d 1 0");
        Due.stepsDue("took none, added, took, added", x, 0, 2, 2, 3);
    }

    private static void takesNothingTwice() {
        Due.sentence("(it takes none if there is none)");
        Due.stepsDue("taken already", Due.of("p cnf 1 1 1 0", "d 1 0 d 1 0 1 0 d 1 0 d 1 0"), 1, 0, 2, 2, 0);
    }

    private static void takesNothingThatComesLater() {
        Due.sentence("one is from the step that adds it on");
        Due.stepsDue("deleted first", Due.of("p cnf 1 0", "d 2 0 2 0 d 2 0"), 0, 1, 1);
    }

    private static void takesEmptyClauses() {
        Due.sentence("a step that deletes takes, of the live clauses that are alike its own");
        Due.stepsDue("empty ones", Due.of("p cnf 1 3 0 1 0 0", "d 0 d 0 d 0 0 d 0"), 3, 1, 0, 4);
    }
}
