import java.util.Arrays;

/** Promise 5 for proofs in packed bytes. */
public final class PackedTest {
    private static final String SMALL = "p cnf 1 1 1 0";
    private static final int ADDS = 97;
    private static final int DELETES = 100;

    public static void main(String[] args) {
        noStep();
        mostSteps();
        kinds();
        codes();
        variablesTwice();
        emptyClauses();
        longestClauses();
        clauseWithoutEnd();
        noGaps();
        fullText();
        stepsBehindTheLastThatCounts();
        Due.end();
    }

    private static void takes(int steps, int... row) {
        ProofTrimmer x = Due.of(SMALL);
        Due.typeBytes(x, row);
        Due.due("packed proof of " + Arrays.toString(row), Due.answer(() -> x.proof(true)), steps);
        Due.due("the text after " + Arrays.toString(row), x.wipe(), 0);
    }

    private static void refuses(int... row) {
        ProofTrimmer x = Due.of(SMALL);
        Due.typeBytes(x, row);
        Due.due("packed proof of " + Arrays.toString(row), Due.answer(() -> x.proof(true)), Due.ARGUMENT);
        Due.due("the text after " + Arrays.toString(row), x.wipe(), row.length);
        Due.due("clauses after " + Arrays.toString(row), x.clauses(), 1);
        Due.due("check after " + Arrays.toString(row), Due.answer(x::check), Due.STATE);
    }

    private static void takesOnlyIf(boolean taken, int steps, int... row) {
        if (taken) {
            takes(steps, row);
        } else {
            refuses(row);
        }
    }

    private static int[] times(int many, int... row) {
        int[] all = new int[many * row.length];
        for (int i = 0; i < all.length; i++) {
            all[i] = row[i % row.length];
        }
        return all;
    }

    private static int[] joined(int[] first, int... second) {
        int[] all = Arrays.copyOf(first, first.length + second.length);
        System.arraycopy(second, 0, all, first.length, second.length);
        return all;
    }

    private static void noStep() {
        Due.sentence("A PROOF in packed bytes: at most 16 steps");
        takes(0);
    }

    private static void mostSteps() {
        Due.sentence("A PROOF in packed bytes: at most 16 steps");
        for (int many = 1; many <= 20; many++) {
            takesOnlyIf(many <= 16, many, times(many, ADDS, 0));
            takesOnlyIf(many <= 16, many, times(many, ADDS, 2, 5, 0));
            takesOnlyIf(many <= 16, many, times(many, DELETES, 2, 0));
        }
        refuses(times(125, ADDS, 0));
    }

    private static void kinds() {
        Due.sentence("each a byte 97 (adds) or 100 (deletes)");
        for (int b = 0; b <= 255; b++) {
            takesOnlyIf(b == ADDS || b == DELETES, 1, b, 2, 0);
            takesOnlyIf(b == ADDS || b == DELETES, 2, ADDS, 4, 0, b, 0);
            refuses(ADDS, 2, 0, b);
        }
        ProofTrimmer x = Due.of(SMALL);
        Due.typeBytes(x, DELETES, 2, 0, ADDS, 2, 0);
        x.proof(true);
        Due.stepsDue("100 and 97", x, 1, 2);
    }

    private static void codes() {
        Due.sentence("v as the byte 2 * v, -v as 2 * v + 1, then 0.");
        for (int b = 1; b <= 255; b++) {
            takesOnlyIf(b >= 2 && b <= 17, 1, ADDS, b, 0);
            takesOnlyIf(b >= 2 && b <= 17, 1, DELETES, b, 0);
        }
        ProofTrimmer x = Due.of(SMALL);
        Due.typeBytes(x, ADDS, 2, 4, 6, 8, 10, 12, 14, 16, 0, ADDS, 3, 5, 7, 9, 11, 13, 15, 17, 0);
        x.proof(true);
        for (int k = 0; k < 8; k++) {
            Due.due("literal(2, " + k + ")", x.literal(2, k), k + 1);
            Due.due("literal(3, " + k + ")", x.literal(3, k), -k - 1);
        }
    }

    private static void variablesTwice() {
        Due.sentence("none of whose variables comes twice");
        for (int v = 1; v <= 8; v++) {
            refuses(ADDS, 2 * v, 2 * v, 0);
            refuses(ADDS, 2 * v, 2 * v + 1, 0);
            refuses(DELETES, 2 * v + 1, 2 * v, 0);
            refuses(DELETES, 2 * v + 1, 2 * v + 1, 0);
        }
        refuses(ADDS, 4, 2, 5, 0);
        refuses(ADDS, 2, 4, 6, 8, 10, 12, 14, 16, 2, 0);
        takes(2, ADDS, 4, 2, 0, ADDS, 5, 2, 0);
    }

    private static void emptyClauses() {
        Due.sentence("it may be empty.");
        takes(1, ADDS, 0);
        takes(1, DELETES, 0);
        takes(3, DELETES, 0, ADDS, 0, DELETES, 0);
    }

    private static void longestClauses() {
        Due.sentence("A CLAUSE is a row of literals in an order, none of whose variables comes twice");
        takes(1, DELETES, 16, 14, 12, 10, 8, 6, 4, 2, 0);
        ProofTrimmer x = Due.of(SMALL);
        Due.typeBytes(x, ADDS, 17, 14, 13, 10, 9, 6, 5, 2, 0);
        Due.due("proof(true)", Due.answer(() -> x.proof(true)), 1);
        int[] literals = {-8, 7, -6, 5, -4, 3, -2, 1};
        Due.due("size(2)", x.size(2), 8);
        for (int k = 0; k < 8; k++) {
            Due.due("literal(2, " + k + ")", x.literal(2, k), literals[k]);
        }
    }

    private static void clauseWithoutEnd() {
        Due.sentence("v as the byte 2 * v, -v as 2 * v + 1, then 0.");
        refuses(ADDS);
        refuses(DELETES);
        refuses(ADDS, 2);
        refuses(ADDS, 2, 0, ADDS);
        refuses(ADDS, 2, 0, ADDS, 2);
        refuses(ADDS, 2, 4, 6, 8, 10, 12, 14, 16);
        refuses(joined(times(15, ADDS, 2, 0), ADDS, 2));
    }

    private static void noGaps() {
        Due.sentence("IllegalArgumentException when it is no proof of that kind.");
        refuses(32, ADDS, 0);
        refuses(ADDS, 32, 0);
        refuses(ADDS, 0, 32);
        refuses(ADDS, 2, 0, 10);
        refuses(10);
        refuses(0);
        refuses(ADDS, 0, 0);
        refuses(ADDS, 2, 0, 0);
        refuses(ADDS, ADDS, 0);
        refuses(ADDS, 0, 2, 0);
    }

    private static void fullText() {
        Due.sentence("A TEXT is a row of at most 250 bytes 0 .. 255.");
        // Sixteen of the longest steps have 160 bytes: only what is no proof fills a text.
        takes(16, times(16, DELETES, 17, 15, 13, 11, 9, 7, 5, 3, 0));
        refuses(times(25, ADDS, 17, 15, 13, 11, 9, 7, 5, 3, 0));
        refuses(times(250, ADDS));
        refuses(times(250, 0));
        refuses(times(250, 255));
    }

    private static void stepsBehindTheLastThatCounts() {
        Due.sentence("nothing is checked: how many steps it has.");
        takes(3, ADDS, 0, ADDS, 2, 0, DELETES, 2, 0);
        refuses(ADDS, 0, ADDS, 18, 0);
        refuses(ADDS, 0, ADDS, 2);
        refuses(ADDS, 0, ADDS, 2, 2, 0);
    }
}
