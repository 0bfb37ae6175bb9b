/** Promise 5 for proofs in characters, and what it leaves when it throws. */
public final class ProofTest {
    private static final String SMALL = "p cnf 1 1 1 0";

    public static void main(String[] args) {
        noStep();
        mostSteps();
        deletingAndAdding();
        wrongWords();
        variablesAtMostEight();
        variablesTwice();
        emptyClauses();
        longestClauses();
        clauseWithoutEnd();
        integers();
        otherBytesAreNoGaps();
        fullText();
        stepsBehindTheLastThatCounts();
        textIsEmptyThen();
        nothingIsChecked();
        isTheProofFromNowOn();
        withoutFormula();
        orderOfThrowing();
        ofThatKind();
        refusedLeavesEverything();
        refusedLeavesNoProof();
        Due.end();
    }

    private static void takes(String text, int steps) {
        ProofTrimmer x = Due.of(SMALL);
        Due.type(x, text);
        Due.due("proof of " + text, Due.answer(() -> x.proof(false)), steps);
        Due.due("the text after " + text, x.wipe(), 0);
    }

    private static void refuses(String... texts) {
        for (String text : texts) {
            ProofTrimmer x = Due.of(SMALL);
            Due.type(x, text);
            Due.due("proof of " + text, Due.answer(() -> x.proof(false)), Due.ARGUMENT);
            Due.due("the text after " + text, x.wipe(), text.length());
            Due.due("clauses after " + text, x.clauses(), 1);
            Due.due("check after " + text, Due.answer(x::check), Due.STATE);
        }
    }

    private static void noStep() {
        Due.sentence("at most 16 STEPS, each perhaps the word d");
        takes("", 0);
        takes(" ", 0);
        takes("\n".repeat(250), 0);
    }

    private static void mostSteps() {
        Due.sentence("at most 16 STEPS, each perhaps the word d");
        for (int many = 1; many <= 16; many++) {
            takes("0 ".repeat(many), many);
            takes("1 2 0 ".repeat(many), many);
            takes("d 1 0 ".repeat(many), many);
        }
        refuses("0 ".repeat(17), "1 2 0 ".repeat(17), "d 1 0 ".repeat(17), "1 0 ".repeat(16) + "d",
            "1 0 ".repeat(16) + "1", "1 0 ".repeat(16) + "x", "0 ".repeat(32), "0 ".repeat(125));
    }

    private static void deletingAndAdding() {
        Due.sentence("each perhaps the word d (it DELETES then, otherwise it ADDS)");
        takes("d 1 0", 1);
        takes("d\n\n1 0\nd 0", 2);
        Due.stepsDue("d 1 0", Due.of(SMALL, "d 1 0"), 1);
        Due.stepsDue("1 0", Due.of(SMALL, "1 0"), 2);
    }

    private static void wrongWords() {
        Due.sentence("IllegalArgumentException when it is no proof of that kind.");
        refuses("d", "1 0 d", "d d 1 0", "1 d 0", "1 0 d d", "D 1 0", "d1 0", "dd 1 0", "a 1 0", "-d 1 0", "d- 1 0",
            "x", "1 0 x", "x 1 0", "0 x", "p cnf 1 0", "p cnf 1 1 1 0", "c 1 0", "1 0 \0", "d\t1 0", "0d 0");
    }

    private static void variablesAtMostEight() {
        Due.sentence("a clause as in the formula (its variables at most 8)");
        // The formula has only variable 1; its proof may have all eight.
        for (int v = 1; v <= 8; v++) {
            takes(v + " 0 -" + v + " 0 d " + v + " 0 d -" + v + " 0", 4);
        }
        refuses("9 0", "-9 0", "d 9 0", "d -9 0", "10 0", "16 0", "99 0", "-10 0", "999 0", "1 9 0", "0 9 0",
            "1 0 -9 0");
    }

    private static void variablesTwice() {
        Due.sentence("none of whose variables comes twice");
        takes("1 0 1 0 -1 0 d 1 0", 4);
        refuses("1 1 0", "1 -1 0", "-1 1 0", "-1 -1 0", "8 8 0", "8 -8 0", "2 1 2 0", "d 1 1 0", "d 1 -1 0", "0 1 1 0",
            "1 2 3 4 5 6 7 8 1 0", "1 2 3 4 5 6 7 8 -8 0");
    }

    private static void emptyClauses() {
        Due.sentence("it may be empty.");
        takes("0", 1);
        takes("d 0", 1);
        takes("d 0 0 d 0 0", 4);
        takes("1 0 0", 2);
    }

    private static void longestClauses() {
        Due.sentence("A CLAUSE is a row of literals in an order, none of whose variables comes twice");
        ProofTrimmer x = Due.of(SMALL, "1 -2 3 -4 5 -6 7 -8 0");
        int[] literals = {1, -2, 3, -4, 5, -6, 7, -8};
        Due.due("size(2)", x.size(2), 8);
        for (int k = 0; k < 8; k++) {
            Due.due("literal(2, " + k + ")", x.literal(2, k), literals[k]);
        }
        takes("d -8 -7 -6 -5 -4 -3 -2 -1 0", 1);
    }

    private static void clauseWithoutEnd() {
        Due.sentence("each the integers of its literals (their variables at most V) and 0.");
        refuses("1", "-8", "d 1", "1 0 2", "0 1", "d 0 1", "1 2 3 4 5 6 7 8", "1 0 d 1");
    }

    private static void integers() {
        Due.sentence("An INTEGER is a word of a digit, or a digit 1 .. 9 and more digits");
        refuses("-0", "00", "000", "1 -0", "1 00", "01 0", "001 0", "-01 0", "+1 0", "- 0", "--1 0", "1- 0", "1 0 -",
            "1,0", "257 0", "-255 0", "65537 0", "4294967297 0", "18446744073709551617 0", "-4294967295 0", "1 256",
            "1 65536", "1 4294967296", "256", "4294967296", "18446744073709551616", "-1000 0", "1000 0", "/ 0", ": 0");
    }

    private static void otherBytesAreNoGaps() {
        Due.sentence("stand between blanks (32) and line ends (10).");
        for (char b = 0; b <= 255; b++) {
            if (b == 32 || b == 10) {
                takes("1" + b + "0", 1);
                takes("d" + b + "1 0", 1);
                takes(b + "1 0" + b, 1);
            } else {
                refuses("1" + b + "0", "d" + b + "1 0", "1 0" + b);
            }
        }
    }

    private static void fullText() {
        Due.sentence("A TEXT is a row of at most 250 bytes 0 .. 255.");
        String text = "-1 -2 -3 -4 5 0\n".repeat(15);
        takes(text + "1 2 3 4 0\n", 16);
        refuses(text + "1 2 3 4 00", text + "1 2 3 4 5 ");
    }

    private static void stepsBehindTheLastThatCounts() {
        Due.sentence("nothing is checked: how many steps it has.");
        // Steps that do not count are steps, and must be right.
        takes("0 1 0 d 1 0 0", 4);
        takes("0 ".repeat(16), 16);
        refuses("0 9 0", "0 x", "0 1", "0 1 1 0", "0 d", "0 -0");
    }

    private static void textIsEmptyThen() {
        Due.sentence("The text is the proof from now on, and is empty then");
        ProofTrimmer x = Due.of(SMALL, "1 0 0");
        Due.due("wipe()", x.wipe(), 0);
        Due.due("proof(false) of the empty text", Due.answer(() -> x.proof(false)), 0);
        Due.due("clauses()", x.clauses(), 1);
        Due.stepsDue("the empty text", x);
    }

    private static void nothingIsChecked() {
        Due.sentence("nothing is checked: how many steps it has.");
        ProofTrimmer x = Due.checked("p cnf 1 2 1 0 -1 0", "0");
        Due.due("verify()", Due.answer(x::verify), 0);
        Due.type(x, "0");
        Due.due("the same proof(false)", Due.answer(() -> x.proof(false)), 1);
        Due.nothingChecked("a new proof", x);
        Due.due("check()", Due.answer(x::check), 1);
        Due.due("proof(true) of the empty text", Due.answer(() -> x.proof(true)), 0);
        Due.nothingChecked("an empty proof", x);
    }

    private static void isTheProofFromNowOn() {
        Due.sentence("The text is the proof from now on, and is empty then");
        ProofTrimmer x = Due.of("p cnf 2 2 1 0 -1 0", "2 0 1 2 0 d 1 0 -1 0 0");
        Due.type(x, "0");
        Due.due("proof(false)", x.proof(false), 1);
        Due.due("clauses()", x.clauses(), 3);
        Due.due("size(3)", x.size(3), 0);
        Due.stepsDue("a shorter proof", x, 3);
        Due.type(x, "d 1 0 d 1 0 -2 0");
        Due.due("proof(false)", x.proof(false), 3);
        // All clauses of the formula are live again, and no clause that an earlier proof added is there.
        Due.stepsDue("another proof", x, 1, 0, 3);
        Due.due("literal(3, 0)", x.literal(3, 0), -2);
        Due.due("size(4)", x.size(4), ProofTrimmer.NONE);
    }

    private static void withoutFormula() {
        Due.sentence("IllegalStateException when there is no formula");
        ProofTrimmer x = new ProofTrimmer();
        Due.due("proof(false) of an empty text", Due.answer(() -> x.proof(false)), Due.STATE);
        Due.due("proof(true) of an empty text", Due.answer(() -> x.proof(true)), Due.STATE);
        Due.type(x, "1 0 0");
        Due.due("proof(false) of a proof", Due.answer(() -> x.proof(false)), Due.STATE);
        Due.due("the text", x.wipe(), 5);
        Due.typeBytes(x, 97, 0);
        Due.due("proof(true) of a packed proof", Due.answer(() -> x.proof(true)), Due.STATE);
        Due.due("the text", x.wipe(), 2);
        Due.due("check()", Due.answer(x::check), Due.STATE);
    }

    private static void orderOfThrowing() {
        Due.sentence("what may be thrown is tested in the order in which it is named.");
        ProofTrimmer x = new ProofTrimmer();
        Due.type(x, "x");
        Due.due("proof(false) without a formula, of no proof", Due.answer(() -> x.proof(false)), Due.STATE);
        Due.due("proof(true) without a formula, of no proof", Due.answer(() -> x.proof(true)), Due.STATE);
        x.wipe();
        Due.type(x, SMALL);
        x.formula();
        Due.type(x, "x");
        Due.due("proof(false) with a formula, of no proof", Due.answer(() -> x.proof(false)), Due.ARGUMENT);
        Due.due("proof(true) with a formula, of no proof", Due.answer(() -> x.proof(true)), Due.ARGUMENT);
    }

    private static void ofThatKind() {
        Due.sentence("packed: in packed bytes, otherwise in characters.");
        ProofTrimmer x = Due.of(SMALL);
        Due.type(x, "1 0 0");
        Due.due("proof(true) in characters", Due.answer(() -> x.proof(true)), Due.ARGUMENT);
        Due.due("proof(false) in characters", Due.answer(() -> x.proof(false)), 2);
        Due.typeBytes(x, 97, 2, 0, 97, 0);
        Due.due("proof(false) in packed bytes", Due.answer(() -> x.proof(false)), Due.ARGUMENT);
        Due.due("proof(true) in packed bytes", Due.answer(() -> x.proof(true)), 2);
        // A blank is a gap of the one kind, and nothing of the other.
        x.type(32L, 1);
        Due.due("proof(true) of a blank", Due.answer(() -> x.proof(true)), Due.ARGUMENT);
        Due.due("proof(false) of a blank", Due.answer(() -> x.proof(false)), 0);
    }

    private static void refusedLeavesEverything() {
        Due.sentence("What throws leaves everything as it was");
        ProofTrimmer x = Due.checked("p cnf 2 2 1 0 -1 0", "2 0 d 1 2 0 0");
        x.write();
        Due.type(x, "d 1 0 1 2 0 1 0 2");
        Due.refusedDue("proof(false)", x, () -> x.proof(false), Due.ARGUMENT);
        Due.refusedDue("proof(true)", x, () -> x.proof(true), Due.ARGUMENT);
        Due.refusedDue("formula()", x, x::formula, Due.ARGUMENT);
        Due.due("check()", Due.answer(x::check), 1);
        Due.type(x, " 0");
        Due.due("proof(false) when the text has gone on", Due.answer(() -> x.proof(false)), 4);
        Due.stepsDue("when the text has gone on", x, 1, 3, 4, 5);
    }

    private static void refusedLeavesNoProof() {
        Due.sentence("What throws leaves everything as it was");
        ProofTrimmer x = Due.of("p cnf 2 2 1 0 -1 0");
        Due.type(x, "0 1");
        Due.refusedDue("proof(false)", x, () -> x.proof(false), Due.ARGUMENT);
        Due.due("check()", Due.answer(x::check), Due.STATE);
        Due.due("clauses()", x.clauses(), 2);
        Due.stepsDue("no proof", x);
    }
}
