/** Promises 16 and 17: write and written. */
public final class WriteTest {
    private static final int NONE = ProofTrimmer.NONE;

    public static void main(String[] args) {
        nothingIsChecked();
        shortest();
        longest();
        stepsThatCount();
        addedNotMarked();
        tookNone();
        tookUnmarkedAdded();
        tookMarkedAdded();
        tookUnmarkedOfFormula();
        tookEmpty();
        literalsOfTheClauseTaken();
        everyLiteral();
        writtenAgain();
        nothingWrittenYet();
        noSuchCharacter();
        latest();
        latestIsShorter();
        staysReadable();
        Due.end();
    }

    private static void writes(ProofTrimmer x, String want) {
        Due.due("write() of " + want, Due.answer(x::write), want.length());
        Due.due("written", Due.allWritten(x, want.length()), want);
        Due.due("written(" + want.length() + ")", x.written(want.length()), NONE);
    }

    private static void nothingIsChecked() {
        Due.sentence("How many characters these are. IllegalStateException when nothing is checked.");
        Samples.unchecked().forEach((what, x) -> Due.due(what + ": write()", Due.answer(x::write), Due.STATE));
    }

    private static void shortest() {
        Due.sentence("each with a blank behind it, 0 and a line end.");
        writes(Due.checked("p cnf 1 1 0", "0"), "0\n");
    }

    private static void longest() {
        Due.sentence("each with a blank behind it, 0 and a line end.");
        ProofTrimmer x = Samples.manyPartners();
        x.check();
        writes(x, "-8 -1 -2 -3 -4 -5 -6 -7 0\n".repeat(13) + "8 0\n-8 1 0\n0\n");
        // Sixteen steps, fifteen of them with "d": all clauses of the formula but the last one go.
        ProofTrimmer y = Due.checked("p cnf 8 16" + " -1 -2 -3 -4 0".repeat(15) + " 0",
            "d -4 -3 -2 -1 0 ".repeat(15) + "0");
        writes(y, "d -1 -2 -3 -4 0\n".repeat(15) + "0\n");
    }

    private static void stepsThatCount() {
        Due.sentence("of the steps that count, in their order");
        writes(Due.checked(Samples.SQUARE, "1 0 0 d 1 2 0 1 0 0"), "1 0\n0\n");
    }

    private static void addedNotMarked() {
        Due.sentence("those that added a marked clause or took one that is marked or of the formula");
        writes(Due.checked(Samples.SQUARE, "2 -1 0 1 0 -3 -1 0 0"), "1 0\n0\n");
    }

    private static void tookNone() {
        Due.sentence("those that added a marked clause or took one that is marked or of the formula");
        writes(Due.checked(Samples.SQUARE, "d 7 0 d 0 1 0 d 7 0 0"), "1 0\n0\n");
        writes(Due.checked("p cnf 1 1 0", "d 1 0 d 7 0 0"), "0\n");
    }

    private static void tookUnmarkedAdded() {
        Due.sentence("those that added a marked clause or took one that is marked or of the formula");
        ProofTrimmer x = Due.checked(Samples.SQUARE, "2 -1 0 -2 0 d -2 0 d 2 -1 0 1 0 0");
        Due.due("marked(5)", x.marked(5), false);
        Due.due("marked(6)", x.marked(6), false);
        writes(x, "1 0\n0\n");
    }

    private static void tookMarkedAdded() {
        Due.sentence("those that added a marked clause or took one that is marked or of the formula");
        writes(Due.checked(Samples.SQUARE, "1 3 0 1 -3 0 d 1 2 0 1 0 d 3 1 0 0"),
            "1 3 0\n1 -3 0\nd 1 2 0\n1 0\nd 1 3 0\n0\n");
    }

    private static void tookUnmarkedOfFormula() {
        Due.sentence("those that added a marked clause or took one that is marked or of the formula");
        ProofTrimmer x = Due.checked("p cnf 3 4 3 0 1 0 -1 0 2 3 0", "d 3 0 d 2 3 0 0");
        Due.due("marked(1)", x.marked(1), false);
        Due.due("marked(4)", x.marked(4), false);
        writes(x, "d 3 0\nd 2 3 0\n0\n");
    }

    private static void tookEmpty() {
        Due.sentence("each as d and a blank (if it deletes), its literals (of the clause taken)");
        writes(Due.checked("p cnf 1 2 0 0", "d 0 0"), "d 0\n0\n");
    }

    private static void literalsOfTheClauseTaken() {
        Due.sentence("each as d and a blank (if it deletes), its literals (of the clause taken)");
        writes(Due.checked(Samples.TWO_WAYS, Samples.TWO_WAYS_PROOF),
            "1 5 0\nd 1 2 0\n1 6 0\nd 1 -2 0\nd 1 3 0\nd 1 -3 0\n0\n");
        writes(Due.checked("p cnf 3 3 1 0 -1 0 3 -2 1 0", "d -2 1 3 0 0"), "d 3 -2 1 0\n0\n");
    }

    private static void everyLiteral() {
        Due.sentence("its literals (of the clause taken), each with a blank behind it, 0 and a line end.");
        writes(Due.checked("p cnf 8 3 8 -7 6 -5 4 -3 2 -1 0 -8 7 -6 5 -4 3 -2 1 0 0",
            "d -1 2 -3 4 -5 6 -7 8 0 d 1 -2 3 -4 5 -6 7 -8 0 0"),
            "d 8 -7 6 -5 4 -3 2 -1 0\nd -8 7 -6 5 -4 3 -2 1 0\n0\n");
    }

    private static void writtenAgain() {
        Due.sentence("Writes the proof in characters without what is not needed");
        ProofTrimmer x = Due.checked(Samples.SQUARE, "2 -1 0 1 0 0");
        writes(x, "1 0\n0\n");
        writes(x, "1 0\n0\n");
        x.poke(6, 0, 0);
        writes(x, "1 0\n0\n");
        Due.due("verify() then", Due.answer(x::verify), 6);
        Due.due("the text is another one", x.wipe(), 0);
    }

    private static void nothingWrittenYet() {
        Due.sentence("Character i of what was written latest; NONE.");
        Due.due("a new object", new ProofTrimmer().written(0), NONE);
        ProofTrimmer x = Due.checked(Samples.SQUARE, "1 0 0");
        for (int i = -1; i <= 6; i++) {
            Due.due("written(" + i + ") before write()", x.written(i), NONE);
        }
        ProofTrimmer y = Due.of(Samples.SQUARE, "1 0 0");
        Due.answer(y::write);
        Due.due("written(0) after a refused write()", y.written(0), NONE);
    }

    private static void noSuchCharacter() {
        Due.sentence("Character i of what was written latest; NONE.");
        ProofTrimmer x = Due.checked(Samples.SQUARE, "1 0 0");
        x.write();
        int[] characters = {'1', ' ', '0', '\n', '0', '\n'};
        for (int i = 0; i < characters.length; i++) {
            Due.due("written(" + i + ")", x.written(i), characters[i]);
        }
        for (int i : new int[] {Integer.MIN_VALUE, -1000, -256, -6, -1, 6, 7, 250, 256, 447, 448, 1 << 16, 1 << 30,
            Integer.MAX_VALUE}) {
            Due.due("written(" + i + ")", x.written(i), NONE);
        }
    }

    private static void latest() {
        Due.sentence("Character i of what was written latest; NONE.");
        ProofTrimmer x = Due.checked(Samples.SQUARE, "1 0 0");
        writes(x, "1 0\n0\n");
        Due.type(x, "2 0 d 1 2 0 0");
        x.proof(false);
        x.check();
        Due.due("before it is written", Due.allWritten(x, 6), "1 0\n0\n");
        writes(x, "2 0\nd 1 2 0\n0\n");
    }

    private static void latestIsShorter() {
        Due.sentence("Character i of what was written latest; NONE.");
        ProofTrimmer x = Due.checked(Samples.SQUARE, "1 0 d 1 2 0 0");
        writes(x, "1 0\nd 1 2 0\n0\n");
        Due.type(x, "p cnf 1 1 0");
        x.formula();
        Due.type(x, "0");
        x.proof(false);
        x.check();
        writes(x, "0\n");
        for (int i = 2; i <= 14; i++) {
            Due.due("written(" + i + ") of what was longer", x.written(i), NONE);
        }
    }

    private static void staysReadable() {
        Due.sentence("Character i of what was written latest; NONE.");
        ProofTrimmer x = Due.checked(Samples.SQUARE, "1 0 0");
        x.write();
        Due.type(x, "1 0");
        x.proof(false);
        Due.due("with a new proof", Due.allWritten(x, 6), "1 0\n0\n");
        x.check();
        Due.due("after a check of an open proof", Due.allWritten(x, 6), "1 0\n0\n");
        Due.answer(x::write);
        Due.due("after a refused write()", Due.allWritten(x, 6), "1 0\n0\n");
        Due.type(x, "0");
        x.proof(false);
        x.check();
        Due.due("after a check of a wrong proof", Due.allWritten(x, 6), "1 0\n0\n");
        Due.type(x, "p cnf 1 1 0");
        x.formula();
        Due.due("with a new formula", Due.allWritten(x, 6), "1 0\n0\n");
    }
}
