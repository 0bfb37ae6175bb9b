/** Promise 5, and promises 7 to 10 for the steps of a proof. */
public final class ProofTest {
    private static final int NONE = ProofTrimmer.NONE;

    public static void main(String[] args) {
        takenInCharacters();
        refusedInCharacters();
        takenPacked();
        refusedPacked();
        refusedLeavesAll();
        stepsThatCount();
        openProof();
        deletions();
        newProof();
        Due.end();
    }

    private static void takenInCharacters() {
        takes("", 0);
        takes(" \n", 0);
        takes("0", 1);
        takes("d 0", 1);
        takes("d\n1\n-8 \n\n0\n 8 0", 2);
        takes("1 -2 3 -4 5 -6 7 -8 0 d -8 -7 -6 -5 -4 -3 -2 -1 0", 2);
        takes("0 ".repeat(16), 16);
        takes("d 1 0 ".repeat(16), 16);
    }

    private static void takes(String text, int steps) {
        ProofTrimmer x = Due.of("p cnf 1 1 1 0");
        Due.type(x, text);
        Due.due("proof of " + text, Due.answer(() -> x.proof(false)), steps);
        Due.due("the text after " + text, x.wipe(), 0);
        Due.due("verify after " + text, Due.answer(x::verify), Due.STATE);
        Due.due("write after " + text, Due.answer(x::write), Due.STATE);
    }

    private static void refusedInCharacters() {
        String[] texts = {
            "1", "d", "d 1", "1 0 2", "d d 1 0", "1 d 0", "1 0 d", "D 1 0", "a 1 0", "d1 0", "dd 1 0", "1 1 0",
            "1 -1 0", "d 2 1 2 0", "9 0", "-9 0", "10 0", "0 ".repeat(17), "0 9 0", "0 x", "-0", "00", "1 00", "01 0",
            "1\t0", "1 0\r", "1 0 \0", "\u0061\u0002\u0000", "p cnf 1 0", "1 2 3 4 5 6 7 8 -1 0", "- 0", "1 0 -"
        };
        for (String text : texts) {
            ProofTrimmer x = Due.of("p cnf 1 1 1 0");
            Due.type(x, text);
            Due.due("proof of " + text, Due.answer(() -> x.proof(false)), Due.ARGUMENT);
            Due.due("the text after " + text, x.wipe(), text.length());
            Due.due("clauses after " + text, x.clauses(), 1);
            Due.due("check after " + text, Due.answer(x::check), Due.STATE);
        }
    }

    private static void takenPacked() {
        ProofTrimmer x = Due.of("p cnf 3 2 3 -1 0 2 0");
        Due.typeBytes(x, 97, 2, 5, 17, 16 - 8, 0, 100, 3, 6, 0, 97, 0, 97, 15, 0);
        Due.due("proof(true)", Due.answer(() -> x.proof(true)), 4);
        Due.due("packed: the text", x.wipe(), 0);
        Due.due("packed: clauses()", x.clauses(), 4);
        Due.due("packed: size(3)", x.size(3), 4);
        int[] literals = {1, -2, -8, 4, 0};
        for (int k = 0; k < literals.length; k++) {
            Due.due("packed: literal(3, " + k + ")", x.literal(3, k), literals[k]);
        }
        Due.due("packed: step(1)", x.step(1), 3);
        Due.due("packed: step(2)", x.step(2), 1);
        Due.due("packed: step(3)", x.step(3), 4);
        Due.due("packed: step(4)", x.step(4), NONE);
        Due.due("packed: an empty proof", Due.answer(() -> x.proof(true)), 0);
        Due.typeBytes(x, 100, 16, 14, 12, 10, 8, 6, 4, 2, 0);
        Due.due("packed: eight literals", Due.answer(() -> x.proof(true)), 1);
        for (int s = 0; s < 16; s++) {
            Due.typeBytes(x, 97, 0);
        }
        Due.due("packed: sixteen steps", Due.answer(() -> x.proof(true)), 16);
    }

    private static void refusedPacked() {
        int[][] rows = {
            {97}, {100}, {97, 2}, {0}, {2, 0}, {98, 0}, {97, 1, 0}, {97, 18, 0}, {97, 19, 0}, {97, 255, 0},
            {97, 2, 2, 0}, {97, 2, 3, 0}, {100, 4, 2, 5, 0}, {97, 2, 0, 0}, {97, 97, 0}, {97, 2, 100, 0},
            {97, 2, 0, 97}, {97, 0, 2, 0}, {97, 32, 0}, {97, 0, 10}, {32, 97, 0}, {97, 2, 4, 6, 8, 10, 12, 14, 16, 2, 0},
            {97, 2, 4, 6, 8, 10, 12, 14, 16}, {65, 2, 0}, {48}, {225, 2, 0}, {97, 128, 0}
        };
        for (int[] row : rows) {
            refusesPacked(row);
        }
        int[] seventeen = new int[34];
        for (int s = 0; s < 17; s++) {
            seventeen[2 * s] = 97;
        }
        refusesPacked(seventeen);
    }

    private static void refusesPacked(int[] row) {
        ProofTrimmer x = Due.of("p cnf 1 1 1 0");
        Due.typeBytes(x, row);
        String what = java.util.Arrays.toString(row);
        Due.due("packed proof of " + what, Due.answer(() -> x.proof(true)), Due.ARGUMENT);
        Due.due("the text after " + what, x.wipe(), row.length);
        Due.due("check after " + what, Due.answer(x::check), Due.STATE);
    }

    private static void refusedLeavesAll() {
        ProofTrimmer none = new ProofTrimmer();
        Due.type(none, "x");
        Due.due("no formula comes before no proof", Due.answer(() -> none.proof(false)), Due.STATE);
        Due.due("no formula: the text stays", none.wipe(), 1);

        ProofTrimmer x = Due.of("p cnf 2 2 1 0 -1 0", "2 0 d 1 2 0 0");
        Due.due("refusedLeavesAll: check()", x.check(), 1);
        Due.type(x, "d 1 0 1 2 0 1 0 2");
        Due.due("refusedLeavesAll: proof(false)", Due.answer(() -> x.proof(false)), Due.ARGUMENT);
        Due.due("refusedLeavesAll: proof(true)", Due.answer(() -> x.proof(true)), Due.ARGUMENT);
        Due.due("refusedLeavesAll: clauses()", x.clauses(), 4);
        Due.due("refusedLeavesAll: literal(3, 0)", x.literal(3, 0), 2);
        Due.due("refusedLeavesAll: step(1)", x.step(1), 3);
        Due.due("refusedLeavesAll: step(2)", x.step(2), 0);
        Due.due("refusedLeavesAll: step(3)", x.step(3), 4);
        Due.marksDue("refusedLeavesAll", x, 1, 2, 4);
        Due.hintsDue("refusedLeavesAll", x, 4, 1, 2);
        Due.due("refusedLeavesAll: verify()", Due.answer(x::verify), 0);
        Due.due("refusedLeavesAll: the text stays", x.wipe(), 17);
    }

    private static void stepsThatCount() {
        ProofTrimmer x = Due.of("p cnf 2 2 1 0 2 1 0");
        Due.type(x, "-2 -1 0 d 0 0 d 1 0 8 0 0");
        Due.due("stepsThatCount: proof(false)", Due.answer(() -> x.proof(false)), 6);
        int[] due = {NONE, 3, 0, 4, NONE, NONE, NONE, NONE};
        for (int s = 0; s < due.length; s++) {
            Due.due("stepsThatCount: step(" + s + ")", x.step(s), due[s]);
        }
        Due.due("stepsThatCount: step(-1)", x.step(-1), NONE);
        Due.due("stepsThatCount: step of the least", x.step(Integer.MIN_VALUE), NONE);
        Due.due("stepsThatCount: step of the greatest", x.step(Integer.MAX_VALUE), NONE);
        Due.due("stepsThatCount: clauses()", x.clauses(), 4);
        Due.due("stepsThatCount: size(3)", x.size(3), 2);
        Due.due("stepsThatCount: size(4)", x.size(4), 0);
        Due.due("stepsThatCount: size(5)", x.size(5), NONE);
        Due.due("stepsThatCount: literal(3, 0)", x.literal(3, 0), -2);
        Due.due("stepsThatCount: literal(3, 1)", x.literal(3, 1), -1);
        Due.due("stepsThatCount: literal(5, 0)", x.literal(5, 0), 0);
    }

    private static void openProof() {
        ProofTrimmer x = Due.of("p cnf 2 2 1 0 2 1 0", "5 0 d 1 2 0 d 0 6 0");
        Due.due("openProof: clauses()", x.clauses(), 4);
        int[] due = {NONE, 3, 2, 0, 4, NONE};
        for (int s = 0; s < due.length; s++) {
            Due.due("openProof: step(" + s + ")", x.step(s), due[s]);
        }
        Due.due("openProof: literal(4, 0)", x.literal(4, 0), 6);
        StringBuilder sixteen = new StringBuilder();
        for (int s = 1; s <= 16; s++) {
            sixteen.append(s % 8 + 1).append(" 0\n");
        }
        ProofTrimmer y = Due.of("p cnf 1 16" + " 1 0".repeat(16), sixteen.toString());
        Due.due("openProof, all that can be: clauses()", y.clauses(), 32);
        Due.due("openProof, all that can be: step(16)", y.step(16), 32);
        Due.due("openProof, all that can be: literal(32, 0)", y.literal(32, 0), 1);
        Due.due("openProof, all that can be: size(33)", y.size(33), NONE);
    }

    private static void deletions() {
        ProofTrimmer x = Due.of("p cnf 3 4 1 2 0 2 1 0 1 2 3 0 1 -2 0",
            "d 1 2 0 2 1 0 d 2 1 0 d 2 1 0 d 1 2 0 d 3 1 2 0 d 1 0 d 1 3 2 0 d -2 1 0 d 0");
        int[] due = {NONE, 2, 5, 5, 1, 0, 3, 0, 0, 4, 0, NONE};
        for (int s = 0; s < due.length; s++) {
            Due.due("deletions: step(" + s + ")", x.step(s), due[s]);
        }
        ProofTrimmer y = Due.of("p cnf 1 2 0 0", "d 0 d 0 d 0 0");
        int[] empty = {NONE, 2, 1, 0, 3, NONE};
        for (int s = 0; s < empty.length; s++) {
            Due.due("deletions of empty clauses: step(" + s + ")", y.step(s), empty[s]);
        }
    }

    private static void newProof() {
        ProofTrimmer x = Due.of("p cnf 2 2 1 0 -1 0", "2 0 1 2 0 d 1 0 -1 0 0");
        Due.type(x, "0");
        Due.due("newProof: proof(false)", x.proof(false), 1);
        Due.due("newProof: clauses()", x.clauses(), 3);
        Due.due("newProof: step(1)", x.step(1), 3);
        Due.due("newProof: step(2)", x.step(2), NONE);
        Due.due("newProof: check()", x.check(), 1);
        Due.type(x, "d 1 0");
        Due.due("newProof: proof(false)", x.proof(false), 1);
        Due.due("newProof: all is live again", x.step(1), 1);
        Due.marksDue("newProof", x);
        Due.hintsDue("newProof", x, 3);
        Due.due("newProof: verify()", Due.answer(x::verify), Due.STATE);
        Due.due("newProof: write()", Due.answer(x::write), Due.STATE);
    }
}
