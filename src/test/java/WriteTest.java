/** Promises 16 and 17: write and written. */
public final class WriteTest {
    public static void main(String[] args) {
        throwing();
        whole();
        trimmed();
        longest();
        latest();
        Due.end();
    }

    private static void writes(String what, ProofTrimmer x, String want) {
        Due.due(what + ": write()", Due.answer(x::write), want.length());
        Due.due(what + ": written", Due.allWritten(x, want.length()), want);
        for (int i : new int[] {Integer.MIN_VALUE, -1, want.length(), want.length() + 1, 448, Integer.MAX_VALUE}) {
            Due.due(what + ": written(" + i + ")", x.written(i), ProofTrimmer.NONE);
        }
    }

    private static void throwing() {
        ProofTrimmer x = Due.of(CheckTest.SQUARE, "1 0 0");
        Due.due("write() before check", Due.answer(x::write), Due.STATE);
        Due.due("written(0) before write", x.written(0), ProofTrimmer.NONE);
        x.check();
        Due.due("written(0) after check", x.written(0), ProofTrimmer.NONE);
    }

    private static void whole() {
        ProofTrimmer x = Due.of(CheckTest.TWO_WAYS, CheckTest.TWO_WAYS_PROOF);
        x.check();
        // The clause taken is 1 3, though the step said 3 1; what it took counts even if it is not marked.
        writes("whole", x, "1 5 0\nd 1 2 0\n1 6 0\nd 1 -2 0\nd 1 3 0\nd 1 -3 0\n0\n");
        ProofTrimmer y = Due.of(CheckTest.PIVOT, "1 2 0 0");
        y.check();
        writes("pivot", y, "1 2 0\n0\n");
    }

    private static void trimmed() {
        // The clauses 5 (2 -1), 6 (-2) and 8 (-3 -1) are not marked, so what takes 6 goes too; two steps take none.
        ProofTrimmer x = Due.of(CheckTest.SQUARE, "2 -1 0 -2 0 d -2 0 d 7 0 1 0 d 2 1 0 -3 -1 0 d 0 0 d 1 0");
        Due.due("trimmed: check()", x.check(), 2);
        writes("trimmed", x, "1 0\nd 1 2 0\n0\n");
        // A step that takes a marked clause stays.
        ProofTrimmer y = Due.of(CheckTest.SQUARE, "1 3 0 1 -3 0 d 1 2 0 1 0 d 3 1 0 0");
        Due.due("trimmed, marked: check()", y.check(), 4);
        writes("trimmed, marked", y, "1 3 0\n1 -3 0\nd 1 2 0\n1 0\nd 1 3 0\n0\n");
    }

    private static void longest() {
        ProofTrimmer x = CheckTest.manyPartners();
        x.check();
        writes("longest", x, "-8 -1 -2 -3 -4 -5 -6 -7 0\n".repeat(13) + "8 0\n-8 1 0\n0\n");
    }

    private static void latest() {
        ProofTrimmer x = Due.of(CheckTest.SQUARE, "1 0 0");
        x.check();
        writes("latest", x, "1 0\n0\n");
        Due.type(x, "1 0");
        x.proof(false);
        x.check();
        Due.due("latest: write() of an open proof", Due.answer(x::write), Due.STATE);
        Due.due("latest: stays", Due.allWritten(x, 6), "1 0\n0\n");
        Due.type(x, "p cnf 1 1 0");
        x.formula();
        Due.due("latest: stays with a new formula", Due.allWritten(x, 6), "1 0\n0\n");
        Due.type(x, "0");
        x.proof(false);
        x.check();
        writes("latest, shorter", x, "0\n");
    }
}
