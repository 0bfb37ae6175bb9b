/** Promise 4, and what 'Terms' says of words, integers and a formula in characters. */
public final class FormulaTest {
    private static final int MOST = 250;
    private static final String WORDS = "Its WORDS are the rows of other bytes, as long as can be, "
        + "that stand between blanks (32) and line ends (10).";

    public static void main(String[] args) {
        gaps();
        otherBytesAreNoGaps();
        integersOfOneCharacter();
        minusSigns();
        zerosInFront();
        integersTooLong();
        integersThatWouldWrap();
        noText();
        headWords();
        fewestAndMostVariables();
        fewestAndMostClauses();
        tooFewClauses();
        nothingElse();
        variablesAtMostV();
        variablesTwice();
        emptyClauses();
        longestClauses();
        fullText();
        isTheFormulaFromNowOn();
        thereIsNoProof();
        refusedLeavesEverything();
        refusedLeavesNoFormula();
        Due.end();
    }

    private static void takes(String text, int clauses) {
        ProofTrimmer x = new ProofTrimmer();
        Due.type(x, text);
        Due.due("formula of " + text, Due.answer(x::formula), clauses);
        Due.due("clauses of " + text, x.clauses(), clauses);
        Due.due("the text after " + text, x.wipe(), 0);
    }

    private static void refuses(String... texts) {
        for (String text : texts) {
            ProofTrimmer x = new ProofTrimmer();
            Due.type(x, text);
            Due.due("formula of " + text, Due.answer(x::formula), Due.ARGUMENT);
            Due.due("clauses after " + text, x.clauses(), 0);
            Due.due("the text after " + text, x.wipe(), text.length());
        }
    }

    private static void takesOnlyIf(boolean taken, String text, int clauses) {
        if (taken) {
            takes(text, clauses);
        } else {
            refuses(text);
        }
    }

    private static void gaps() {
        Due.sentence(WORDS);
        takes("p cnf 3 2 1 0 2 -3 0", 2);
        takes("p\ncnf\n3\n2\n1\n0\n2\n-3\n0", 2);
        takes("\n \n p\n\ncnf  3\n2 \n1 0 2 -3\n\n0 \n", 2);
        refuses("pcnf 3 1 1 0", "p cnf3 1 1 0", "p cnf 3 11 0", "p cnf 3 1 10", "p c nf 3 1 1 0", "p cnf 3 1 - 1 0");
    }

    private static void otherBytesAreNoGaps() {
        Due.sentence(WORDS);
        for (char b = 0; b <= 255; b++) {
            boolean gap = b == 32 || b == 10;
            takesOnlyIf(gap, b + "p cnf 1 0", 0);
            takesOnlyIf(gap, "p" + b + "cnf 1 0", 0);
            takesOnlyIf(gap, "p cnf 1 1 1" + b + "0", 1);
            takesOnlyIf(gap, "p cnf 1 0" + b, 0);
        }
    }

    private static void integersOfOneCharacter() {
        Due.sentence("An INTEGER is a word of a digit, or a digit 1 .. 9 and more digits");
        for (char b = 0; b <= 255; b++) {
            boolean gap = b == 32 || b == 10;
            takesOnlyIf(b >= '1' && b <= '8', "p cnf " + b + " 0", 0);
            takesOnlyIf(b == '4', "p cnf 1 " + b + " 0 0 0 0", 4);
            takesOnlyIf(gap || b >= '1' && b <= '8', "p cnf 8 1 " + b + " 0", 1);
            takesOnlyIf(gap || b == '0', "p cnf 8 2 1 0 " + b + " 0".repeat(gap ? 1 : 0), 2);
        }
    }

    private static void minusSigns() {
        Due.sentence("perhaps with - in front (not before 0)");
        for (int v = 1; v <= 8; v++) {
            takes("p cnf 8 1 -" + v + " 0", 1);
        }
        refuses("p cnf 8 1 1 -0", "p cnf 8 1 -0", "p cnf 1 -0", "p cnf 8 1 - 0", "p cnf 8 1 --1 0", "p cnf 8 1 1- 0",
            "p cnf 8 1 -1- 0", "p cnf 8 1 +1 0", "p cnf 8 1 1 +0", "p cnf +8 0", "p cnf 8 +0", "p cnf 8 1 -", "p cnf -",
            "p cnf 8 -");
    }

    private static void zerosInFront() {
        Due.sentence("An INTEGER is a word of a digit, or a digit 1 .. 9 and more digits");
        refuses("p cnf 08 0", "p cnf 008 0", "p cnf 8 00", "p cnf 8 000", "p cnf 8 01 0", "p cnf 8 1 01 0",
            "p cnf 8 1 001 0", "p cnf 8 1 -01 0", "p cnf 8 1 -00 0", "p cnf 8 1 1 00", "p cnf 8 1 1 000",
            "p cnf 8 016" + " 0".repeat(16));
    }

    private static void integersTooLong() {
        Due.sentence("of at most three characters.");
        refuses("p cnf 0008 0", "p cnf 8 0000", "p cnf 8 0016" + " 0".repeat(16), "p cnf 8 1 0001 0",
            "p cnf 8 1 1 0000", "p cnf 8 1 -001 0", "p cnf 8 1000", "p cnf 1000 0", "p cnf 8 1 1000 0",
            "p cnf 8 1 -1000 0", "p cnf -1000 0", "p cnf 8 -1000", "p cnf 8 1 -100 0");
    }

    private static void integersThatWouldWrap() {
        Due.sentence("of at most three characters.");
        // 1 more than 2 to the 8th, 16th, 32nd and 64th, and so on: what is cut off to 1 or 0 is no 1 or 0.
        for (String one : new String[] {"257", "65537", "4294967297", "18446744073709551617", "-255", "-4294967295"}) {
            refuses("p cnf " + one + " 0", "p cnf 1 " + one + " 0", "p cnf 1 1 " + one + " 0",
                "p cnf 2 1 2 " + one + " 0");
        }
        for (String zero : new String[] {"256", "65536", "4294967296", "18446744073709551616", "-256", "-4294967296"}) {
            refuses("p cnf 1 " + zero, "p cnf 1 1 1 " + zero, "p cnf 1 1 " + zero);
        }
    }

    private static void noText() {
        Due.sentence("IllegalArgumentException when it is none.");
        refuses("", " ", "\n", " ".repeat(MOST), "\0", "\0".repeat(MOST), "\u00ff".repeat(MOST));
    }

    private static void headWords() {
        Due.sentence("the words p, cnf, an integer V, 1 .. 8, an integer C, 0 .. 16");
        takes("p cnf 1 0", 0);
        refuses("p", "p cnf", "p cnf 1", "cnf 1 0", "p 1 0", "cnf p 1 0", "p p cnf 1 0", "p cnf cnf 1 0", "P cnf 1 0",
            "p CNF 1 0", "p cn 1 0", "p cnff 1 0", "p cnx 1 0", "p xnf 1 0", "pp cnf 1 0", "c p cnf 1 0", "1 0", "0",
            "p cnf x 0", "p cnf 1 x");
    }

    private static void fewestAndMostVariables() {
        Due.sentence("VARIABLES are 1 .. 8.");
        for (int v = -9; v <= 18; v++) {
            takesOnlyIf(v >= 1 && v <= 8, "p cnf " + v + " 0", 0);
            takesOnlyIf(v >= 1 && v <= 8, "p cnf " + v + " 1 1 0", 1);
        }
        refuses("p cnf 99 0", "p cnf 100 0", "p cnf 999 0", "p cnf -99 0");
    }

    private static void fewestAndMostClauses() {
        Due.sentence("an integer C, 0 .. 16; then C clauses");
        for (int many = 0; many <= 20; many++) {
            takesOnlyIf(many <= 16, "p cnf 8 " + many + " 8 0".repeat(many), many);
        }
        refuses("p cnf 8 -1", "p cnf 8 -1 0", "p cnf 8 -16", "p cnf 8 17", "p cnf 8 99", "p cnf 8 100 0");
    }

    private static void tooFewClauses() {
        Due.sentence("then C clauses, each the integers of its literals (their variables at most V) and 0.");
        for (int many = 1; many <= 16; many++) {
            refuses("p cnf 8 " + many + " 0".repeat(many - 1), "p cnf 8 " + many + " 1 0".repeat(many - 1) + " 1");
        }
        refuses("p cnf 8 1 1 2 3 4 5 6 7 8", "p cnf 8 2 1 0 2", "p cnf 8 1 x 0", "p cnf 8 1 d 1 0", "p cnf 8 1 1,0");
    }

    private static void nothingElse() {
        Due.sentence("There is nothing else in it.");
        refuses("p cnf 8 0 0", "p cnf 8 0 1 0", "p cnf 8 0 p", "p cnf 8 1 1 0 0", "p cnf 8 1 1 0 2 0",
            "p cnf 8 1 1 0 2", "p cnf 8 1 0 0", "p cnf 8 1 1 0 x", "p cnf 8 1 1 0 \0", "p cnf 8 1 1 0\r",
            "p cnf 8 16" + " 0".repeat(17), "p cnf 8 1 1 0 p cnf 8 1 1 0");
    }

    private static void variablesAtMostV() {
        Due.sentence("(their variables at most V)");
        for (int v = 1; v <= 8; v++) {
            for (int l = 1; l <= 10; l++) {
                takesOnlyIf(l <= v, "p cnf " + v + " 1 " + l + " 0", 1);
                takesOnlyIf(l <= v, "p cnf " + v + " 1 -" + l + " 0", 1);
            }
        }
        refuses("p cnf 7 2 7 0 -7 8 0", "p cnf 8 1 99 0", "p cnf 8 1 999 0", "p cnf 8 1 -99 0");
    }

    private static void variablesTwice() {
        Due.sentence("none of whose variables comes twice");
        for (int v = 1; v <= 8; v++) {
            int w = v % 8 + 1;
            refuses("p cnf 8 1 " + v + " " + v + " 0", "p cnf 8 1 " + v + " -" + v + " 0",
                "p cnf 8 1 -" + v + " " + v + " 0", "p cnf 8 1 -" + v + " -" + v + " 0",
                "p cnf 8 1 " + v + " " + w + " " + v + " 0");
            takes("p cnf 8 2 " + v + " " + w + " 0 -" + w + " " + v + " 0", 2);
        }
        refuses("p cnf 8 1 1 2 3 4 5 6 7 8 1 0", "p cnf 8 1 1 2 3 4 5 6 7 8 -8 0", "p cnf 8 2 0 1 1 0");
    }

    private static void emptyClauses() {
        Due.sentence("it may be empty.");
        takes("p cnf 1 1 0", 1);
        ProofTrimmer x = Due.of("p cnf 8 3 0 1 0 0");
        Due.due("size(1)", x.size(1), 0);
        Due.due("size(2)", x.size(2), 1);
        Due.due("size(3)", x.size(3), 0);
        ProofTrimmer y = Due.of("p cnf 8 16" + " 0".repeat(16));
        for (int c = 1; c <= 16; c++) {
            Due.due("size(" + c + ") of sixteen", y.size(c), 0);
        }
    }

    private static void longestClauses() {
        Due.sentence("A CLAUSE is a row of literals in an order, none of whose variables comes twice");
        ProofTrimmer x = Due.of("p cnf 8 2 1 -2 3 -4 5 -6 7 -8 0 -8 7 -6 5 -4 3 -2 1 0");
        int[] first = {1, -2, 3, -4, 5, -6, 7, -8};
        Due.due("size(1)", x.size(1), 8);
        Due.due("size(2)", x.size(2), 8);
        for (int k = 0; k < 8; k++) {
            Due.due("literal(1, " + k + ")", x.literal(1, k), first[k]);
            Due.due("literal(2, " + k + ")", x.literal(2, k), first[7 - k]);
        }
    }

    private static void fullText() {
        Due.sentence("A TEXT is a row of at most 250 bytes 0 .. 255.");
        String text = "p cnf 8 16" + " 1 -2 3 -4 5 0".repeat(16);
        String full = text + " ".repeat(MOST - text.length() - 2);
        takes(full + " \n", 16);
        refuses(full + " x", full + " 0", full + " 1");
    }

    private static void isTheFormulaFromNowOn() {
        Due.sentence("is the formula from now on, and the text is empty; there is no proof: how many clauses it has.");
        ProofTrimmer x = Due.of("p cnf 8 16" + " 1 2 3 4 0".repeat(16));
        Due.due("the text", x.wipe(), 0);
        Due.due("formula() of the empty text", Due.answer(x::formula), Due.ARGUMENT);
        Due.type(x, "p cnf 3 1 3 -1 0");
        Due.due("a smaller formula()", Due.answer(x::formula), 1);
        Due.due("clauses()", x.clauses(), 1);
        Due.due("size(1)", x.size(1), 2);
        Due.due("literal(1, 0)", x.literal(1, 0), 3);
        Due.due("literal(1, 2)", x.literal(1, 2), 0);
        Due.due("size(2)", x.size(2), ProofTrimmer.NONE);
        Due.due("literal(2, 0)", x.literal(2, 0), 0);
        Due.type(x, "p cnf 8 0");
        Due.due("a formula() of no clause", Due.answer(x::formula), 0);
        Due.due("clauses()", x.clauses(), 0);
        Due.due("size(1)", x.size(1), ProofTrimmer.NONE);
        Due.due("proof(false)", Due.answer(() -> x.proof(false)), 0);
    }

    private static void thereIsNoProof() {
        Due.sentence("there is no proof: how many clauses it has.");
        ProofTrimmer x = Due.checked("p cnf 2 2 1 0 -1 0", "2 0 d 2 0 0");
        Due.due("write()", x.write(), 2);
        // The same formula once more is a new one, too.
        Due.type(x, "p cnf 2 2 1 0 -1 0");
        Due.due("formula()", Due.answer(x::formula), 2);
        Due.due("clauses()", x.clauses(), 2);
        Due.due("size(3)", x.size(3), ProofTrimmer.NONE);
        Due.due("literal(3, 0)", x.literal(3, 0), 0);
        Due.stepsDue("no proof", x);
        Due.hintsDue("no proof", x, 4);
        Due.due("poke(4, 0, 1)", x.poke(4, 0, 1), false);
        Due.nothingChecked("no proof", x);
        Due.due("check()", Due.answer(x::check), Due.STATE);
    }

    private static void refusedLeavesEverything() {
        Due.sentence("What throws leaves everything as it was");
        ProofTrimmer x = Due.checked("p cnf 2 2 1 0 -1 0", "2 0 d 2 0 0");
        x.write();
        Due.type(x, "p cnf 2 3 2 0 2 0 2");
        Due.refusedDue("formula()", x, x::formula, Due.ARGUMENT);
        Due.due("check()", Due.answer(x::check), 1);
        Due.type(x, " 0");
        Due.due("formula() when the text has gone on", Due.answer(x::formula), 3);
        Due.due("literal(3, 0)", x.literal(3, 0), 2);
    }

    private static void refusedLeavesNoFormula() {
        Due.sentence("What throws leaves everything as it was");
        ProofTrimmer x = new ProofTrimmer();
        Due.type(x, "p cnf 2 1 1 0 0");
        Due.refusedDue("formula()", x, x::formula, Due.ARGUMENT);
        Due.due("proof(false)", Due.answer(() -> x.proof(false)), Due.STATE);
        Due.due("the text", x.wipe(), 15);
        Due.due("proof(false)", Due.answer(() -> x.proof(false)), Due.STATE);
    }
}
