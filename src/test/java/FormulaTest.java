/** Promise 4, and promises 7 to 9 for clauses of the formula. */
public final class FormulaTest {
    public static void main(String[] args) {
        accepted();
        refused();
        refusedLeavesAll();
        clausesOfFormula();
        forgetsProof();
        Due.end();
    }

    private static void accepted() {
        takes("p cnf 1 0", 0);
        takes("p cnf 8 0", 0);
        takes("\n \n p\n\ncnf  3\n2 \n1 0 2 -3\n\n0 \n", 2);
        takes("p cnf 8 16 0 0 0 0 0 0 0 0 0 0 0 0 0 0 0 0", 16);
        takes("p cnf 8 1 1 -2 3 -4 5 -6 7 -8 0", 1);
        takes("p cnf 3 1 -3 -1 -2 0", 1);
        takes("p cnf 2 3 1 2 0 1 2 0 2 1 0", 3);
        takes("p cnf 1 1 0", 1);
        takes("p cnf 8 16" + " 1 -2 3 -4 5 0".repeat(16) + " ".repeat(16), 16);
    }

    private static void takes(String text, int clauses) {
        ProofTrimmer x = new ProofTrimmer();
        Due.type(x, text);
        Due.due("formula of " + text, Due.answer(x::formula), clauses);
        Due.due("clauses of " + text, x.clauses(), clauses);
        Due.due("the text after " + text, x.wipe(), 0);
    }

    private static void refused() {
        String[] texts = {
            "", " ", "\n", "p", "p cnf", "p cnf 1", "pcnf 1 0", "p  cnf1 0", "P cnf 1 0", "p CNF 1 0", "p cnx 1 0",
            "p cn 1 0", "p cnff 1 0", "c p cnf 1 0", "cnf p 1 0", "cnf 1 0", "p 1 0", "p cnf 0 0", "p cnf 9 0",
            "p cnf -1 0", "p cnf 10 0", "p cnf 01 0", "p cnf +1 0", "p cnf 1 00", "p cnf 1 -0", "p cnf 1 -1",
            "p cnf 1 17" + " 0".repeat(17), "p cnf 1 100", "p cnf 1 :" + " 0".repeat(10), "p cnf 1 /" + " 0",
            "p cnf 1 x", "p cnf x 0", "p cnf 1 0 0", "p cnf 1 0 p",
            "p cnf 1 1", "p cnf 1 1 1", "p cnf 1 2 1 0", "p cnf 1 1 1 0 1 0", "p cnf 1 1 1 0 1", "p cnf 1 1 2 0",
            "p cnf 1 1 -2 0", "p cnf 7 1 8 0", "p cnf 8 1 9 0", "p cnf 8 1 -9 0", "p cnf 2 1 1 1 0",
            "p cnf 2 1 1 -1 0", "p cnf 2 1 -2 1 -2 0", "p cnf 8 1 1 2 3 4 5 6 7 8 1 0", "p cnf 2 1 1 -0",
            "p cnf 2 1 1 00", "p cnf 2 1 01 0", "p cnf 2 1 -01 0", "p cnf 2 1 - 0", "p cnf 2 1 --1 0",
            "p cnf 2 1 1- 0", "p cnf 2 1 1,0", "p cnf 2 1 1\t0", "p cnf 2 1 1 0\r", "p cnf 2 1 d 1 0",
            "p cnf 2 1 0001 0", "p cnf 2 1 1 0000", "p cnf 2 1 1000 0", "p cnf 2 1 -1000 0", "p cnf 2 1 1 0\0",
            "p cnf 2 1 1 \u00b2 0", "p cnf 2 1 : 0", "p cnf 2 1 / 0", "p cnf 8 1 1 2 3 4 5 6 7 8"
        };
        for (String text : texts) {
            ProofTrimmer x = new ProofTrimmer();
            Due.type(x, text);
            Due.due("formula of " + text, Due.answer(x::formula), Due.ARGUMENT);
            Due.due("clauses after " + text, x.clauses(), 0);
            Due.due("the text after " + text, x.wipe(), text.length());
            Due.due("proof after " + text, Due.answer(() -> x.proof(false)), Due.STATE);
        }
    }

    private static void refusedLeavesAll() {
        ProofTrimmer x = Due.of("p cnf 2 2 1 0 -1 0", "0");
        Due.due("refusedLeavesAll: check()", x.check(), 1);
        int length = x.write();
        Due.type(x, "p cnf 2 3 2 0 2 0 2");
        Due.due("refusedLeavesAll: formula()", Due.answer(x::formula), Due.ARGUMENT);
        Due.due("refusedLeavesAll: clauses()", x.clauses(), 3);
        Due.due("refusedLeavesAll: literal(1, 0)", x.literal(1, 0), 1);
        Due.due("refusedLeavesAll: literal(2, 0)", x.literal(2, 0), -1);
        Due.due("refusedLeavesAll: step(1)", x.step(1), 3);
        Due.hintsDue("refusedLeavesAll", x, 3, 1, 2);
        Due.due("refusedLeavesAll: verify()", Due.answer(x::verify), 0);
        Due.due("refusedLeavesAll: written", Due.allWritten(x, length), "0\n");
        Due.type(x, " 0");
        Due.due("refusedLeavesAll: the text goes on", Due.answer(x::formula), 3);
        Due.due("refusedLeavesAll: literal(3, 0)", x.literal(3, 0), 2);
    }

    private static void clausesOfFormula() {
        ProofTrimmer x = Due.of("p cnf 8 3 3 -1 8 0 0 -8 7 -6 5 -4 3 -2 1 0");
        Due.due("clauses()", x.clauses(), 3);
        int[] sizes = {ProofTrimmer.NONE, 3, 0, 8, ProofTrimmer.NONE};
        for (int c = 0; c < sizes.length; c++) {
            Due.due("size(" + c + ")", x.size(c), sizes[c]);
        }
        int[] first = {0, 3, -1, 8, 0, 0};
        int[] third = {0, -8, 7, -6, 5, -4, 3, -2, 1, 0, 0};
        for (int k = 0; k < first.length; k++) {
            Due.due("literal(1, " + (k - 1) + ")", x.literal(1, k - 1), first[k]);
        }
        for (int k = 0; k < third.length; k++) {
            Due.due("literal(3, " + (k - 1) + ")", x.literal(3, k - 1), third[k]);
        }
        for (int c : new int[] {Integer.MIN_VALUE, -1, 0, 2, 4, 33, Integer.MAX_VALUE}) {
            Due.due("literal(" + c + ", 0)", x.literal(c, 0), 0);
            Due.due("literal(1, " + (c == 0 || c == 2 ? 9 : c) + ")", x.literal(1, c == 0 || c == 2 ? 9 : c), 0);
        }
    }

    private static void forgetsProof() {
        ProofTrimmer x = Due.of("p cnf 2 2 1 0 -1 0", "2 0 d 2 0 0");
        Due.due("forgetsProof: check()", x.check(), 1);
        Due.due("forgetsProof: write()", x.write(), 2);
        Due.type(x, "p cnf 2 1 2 1 0");
        Due.due("forgetsProof: formula()", Due.answer(x::formula), 1);
        Due.due("forgetsProof: clauses()", x.clauses(), 1);
        Due.due("forgetsProof: size(2)", x.size(2), ProofTrimmer.NONE);
        Due.due("forgetsProof: literal(2, 0)", x.literal(2, 0), 0);
        Due.due("forgetsProof: step(1)", x.step(1), ProofTrimmer.NONE);
        Due.marksDue("forgetsProof", x);
        Due.hintsDue("forgetsProof", x, 4);
        Due.due("forgetsProof: poke(4, 0, 1)", x.poke(4, 0, 1), false);
        Due.due("forgetsProof: check()", Due.answer(x::check), Due.STATE);
        Due.due("forgetsProof: verify()", Due.answer(x::verify), Due.STATE);
        Due.due("forgetsProof: write()", Due.answer(x::write), Due.STATE);
        Due.due("forgetsProof: what was written latest stays", Due.allWritten(x, 2), "0\n");
    }
}
