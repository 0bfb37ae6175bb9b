/** Promise 6 and promises 11 to 13: check, and what it leaves. */
public final class CheckTest {
    static final String SQUARE = "p cnf 2 4 1 2 0 -1 2 0 1 -2 0 -1 -2 0";
    static final String TWO_WAYS = "p cnf 6 6 1 2 0 1 -2 0 1 3 0 1 -3 0 -1 0 -5 -6 0";
    static final String TWO_WAYS_PROOF = "1 5 0 d 1 2 0 1 6 0 d 1 -2 0 d 3 1 0 d 1 -3 0 0";
    static final String PIVOT =
        "p cnf 8 10 2 3 0 -1 3 0 4 -1 0 4 5 0 4 8 0 4 6 0 -5 -6 -3 0 -2 0 -4 7 0 -4 -7 0";
    static final String NO_PARTNER = "p cnf 8 5 1 2 0 1 -2 0 -1 2 0 -1 -2 0 8 7 0";

    public static void main(String[] args) {
        derived();
        unneeded();
        markedFirst();
        usedOnly();
        byPivot();
        withoutPartners();
        manyPartnersMarked();
        markedAfterTheLastPartner();
        manyHints();
        wrong();
        open();
        again();
        edges();
        Due.end();
    }

    private static void derived() {
        ProofTrimmer x = Due.of(SQUARE, "1 0 0");
        Due.due("derived: nothing is checked before", x.marked(6), false);
        Due.due("derived: check()", x.check(), 2);
        Due.hintsDue("derived", x, 5, 1, 3);
        Due.hintsDue("derived", x, 6, 5, 2, 4);
        Due.marksDue("derived", x, 1, 2, 3, 4, 5, 6);
        for (int c = 1; c <= 4; c++) {
            Due.hintsDue("derived", x, c);
        }
        // An empty clause of the formula is a conflict, but a smaller number comes first.
        ProofTrimmer y = Due.of("p cnf 1 2 1 0 0", "0");
        Due.due("derived from an empty clause: check()", y.check(), 1);
        Due.hintsDue("derived from an empty clause", y, 3, 2);
        Due.marksDue("derived from an empty clause", y, 2, 3);
    }

    private static void unneeded() {
        // 5 and 6 are not needed, so that nobody asks whether they follow; 7 is, and is deleted in vain later.
        ProofTrimmer x = Due.of(SQUARE, "-1 2 0 -2 0 d -2 0 1 0 0 d 1 0 8 0");
        Due.due("unneeded: check()", x.check(), 2);
        Due.hintsDue("unneeded", x, 5);
        Due.hintsDue("unneeded", x, 6);
        Due.hintsDue("unneeded", x, 7, 1, 3);
        Due.hintsDue("unneeded", x, 8, 7, 2, 4);
        Due.marksDue("unneeded", x, 1, 2, 3, 4, 7, 8);
    }

    private static void markedFirst() {
        ProofTrimmer x = Due.of(TWO_WAYS, TWO_WAYS_PROOF);
        Due.due("markedFirst: check()", x.check(), 3);
        Due.hintsDue("markedFirst", x, 9, 5, 7, 6, 8);
        Due.hintsDue("markedFirst", x, 8, 3, 4);
        Due.hintsDue("markedFirst", x, 7, 3, 4);
        Due.marksDue("markedFirst", x, 3, 4, 5, 6, 7, 8, 9);
    }

    private static void usedOnly() {
        // 1 and 3 become reasons before the conflict, but nothing in it comes from them.
        ProofTrimmer x = Due.of("p cnf 5 5 3 0 1 0 -3 4 0 -1 2 0 -1 -2 0", "0");
        Due.due("usedOnly: check()", x.check(), 1);
        Due.hintsDue("usedOnly", x, 6, 2, 4, 5);
        Due.marksDue("usedOnly", x, 2, 4, 5, 6);
    }

    private static void byPivot() {
        ProofTrimmer x = Due.of(PIVOT, "1 2 0 0");
        Due.due("byPivot: check()", x.check(), 2);
        Due.hintsDue("byPivot", x, 11, 1, -2, -3, 4, 6, 7);
        Due.hintsDue("byPivot", x, 12, 8, 11, 3, 9, 10);
        Due.marksDue("byPivot", x, 1, 2, 3, 4, 6, 7, 8, 9, 10, 11, 12);
        // Only the first literal is the pivot: from 2 the clause -2 can't be settled.
        ProofTrimmer y = Due.of(PIVOT, "2 1 0 0");
        Due.due("byPivot, the other literal first: check()", y.check(), -1);
    }

    private static void withoutPartners() {
        // The partner of 6 comes only later; 5 is marked although no conflict used it.
        ProofTrimmer x = Due.of(NO_PARTNER, "8 0 -8 1 0 0");
        Due.due("withoutPartners: check()", x.check(), 3);
        Due.hintsDue("withoutPartners", x, 6, 5);
        Due.hintsDue("withoutPartners", x, 7, 1, 2);
        Due.hintsDue("withoutPartners", x, 8, 6, 7, 3, 4);
        Due.marksDue("withoutPartners", x, 1, 2, 3, 4, 5, 6, 7, 8);
        ProofTrimmer y = Due.of(SQUARE, "8 0 -8 1 0 0");
        Due.due("without any hint: check()", y.check(), 3);
        Due.hintsDue("without any hint", y, 5);
        Due.due("without any hint: marked(5)", y.marked(5), true);
    }

    private static void manyPartnersMarked() {
        // The partners 5 .. 17 follow from 4; they are needed only because 18 has them as partners.
        ProofTrimmer x = manyPartners();
        Due.due("partners: check()", x.check(), 16);
        for (int c = 5; c <= 17; c++) {
            Due.hintsDue("partners", x, c, 4);
        }
        int[] hints = new int[26];
        for (int i = 0; i < 13; i++) {
            hints[2 * i] = -5 - i;
            hints[2 * i + 1] = 4;
        }
        Due.hintsDue("partners", x, 18, hints);
        Due.hintsDue("partners", x, 19, 1, 3);
        Due.hintsDue("partners", x, 20, 18, 19, 2, 4);
    }

    private static void markedAfterTheLastPartner() {
        // For partner 1 the clauses 5, 7 and 8 are used. Were they marked then, partner 2 would take 7 before 3.
        String formula = "p cnf 8 9 -1 2 0 -1 3 0 -6 8 3 0 -6 -8 3 0 2 6 0 3 6 0 -6 7 0 -6 -7 0 -2 -3 0";
        ProofTrimmer x = Due.of(formula, "1 0 0");
        Due.due("markedAfterTheLastPartner: check()", x.check(), 2);
        Due.hintsDue("markedAfterTheLastPartner", x, 10, -1, 5, 7, 8, -2, 6, 3, 4);
        Due.hintsDue("markedAfterTheLastPartner", x, 11, 10, 1, 2, 9);
        Due.marksDue("markedAfterTheLastPartner", x, 1, 2, 3, 4, 5, 6, 7, 8, 9, 10, 11);
    }

    static ProofTrimmer manyPartners() {
        ProofTrimmer x = Due.of(SQUARE);
        for (int i = 0; i < 13; i++) {
            Due.typeBytes(x, 97, 17, 3, 5, 7, 9, 11, 13, 15, 0);
        }
        Due.typeBytes(x, 97, 16, 0, 97, 17, 2, 0, 97, 0);
        x.proof(true);
        return x;
    }

    private static void manyHints() {
        // 1 .. 7 refute -1, 8 and 9 refute 1; 10 .. 16 and the added 17 .. 30 are partners of 31, each for itself.
        ProofTrimmer x = Due.of("p cnf 8 16 1 2 0 -2 3 0 -3 4 0 -4 5 0 -5 6 0 -6 7 0 -7 -2 0 -1 7 0 -1 -7 0"
            + " -8 1 0".repeat(7), "-8 1 0\n".repeat(14) + "8 0 0");
        Due.due("manyHints: check()", x.check(), 16);
        int[] hints = new int[21 * 8];
        for (int i = 0; i < hints.length; i++) {
            hints[i] = i % 8 == 0 ? -10 - i / 8 : i % 8;
        }
        for (int c = 17; c <= 30; c++) {
            // 10 would be a conflict at once, but 1, and then 2 and so on, have smaller numbers.
            Due.hintsDue("manyHints", x, c, 1, 2, 3, 4, 5, 6, 7);
        }
        Due.hintsDue("manyHints", x, 31, hints);
        Due.hintsDue("manyHints", x, 32, 31, 10, 8, 9);
        Due.due("manyHints: verify()", x.verify(), 0);
    }

    private static void wrong() {
        ProofTrimmer x = Due.of(SQUARE, "1 0 0");
        x.check();
        Due.type(x, "d 1 2 0 8 0 1 0 d 8 0 0");
        x.proof(false);
        // Without 1 2 nothing tells 1: its step is the third one of the proof.
        Due.due("wrong: check()", x.check(), -3);
        Due.marksDue("wrong", x);
        for (int c = 1; c <= 7; c++) {
            Due.hintsDue("wrong", x, c);
        }
        Due.due("wrong: verify()", Due.answer(x::verify), Due.STATE);
        Due.due("wrong: write()", Due.answer(x::write), Due.STATE);
        Due.due("wrong: the clauses stay", x.clauses(), 7);
        Due.due("wrong: check() again", x.check(), -3);
        Due.due("wrong, empty: check()", Due.of(SQUARE, "d 7 0 0").check(), -2);
        Due.due("wrong, nothing to refute: check()", Due.of("p cnf 1 0", "0").check(), -1);
        // A partner without another literal can't be settled if the first propagation has no conflict.
        Due.due("wrong, lone partner: check()", Due.of("p cnf 2 2 -1 2 0 -2 0", "2 0 0").check(), -1);
        // The first partner is settled, the second one is not.
        Due.due("wrong, second partner: check()",
            Due.of("p cnf 4 5 -1 2 0 -1 3 0 2 4 0 2 -4 0 -3 0", "1 0 0").check(), -1);
    }

    private static void open() {
        ProofTrimmer x = Due.of(SQUARE, "1 0 0");
        x.check();
        Due.type(x, "1 0 d 0 2 0");
        x.proof(false);
        Due.due("open: check()", x.check(), ProofTrimmer.NONE);
        Due.marksDue("open", x);
        Due.due("open: verify()", Due.answer(x::verify), Due.STATE);
        Due.due("open: write()", Due.answer(x::write), Due.STATE);
        Due.due("open, no step: check()", Due.of(SQUARE, "").check(), ProofTrimmer.NONE);
    }

    private static void again() {
        ProofTrimmer x = Due.of(PIVOT, "1 2 0 0");
        x.check();
        x.poke(11, 0, 77);
        x.poke(12, 4, -77);
        Due.due("again: check()", x.check(), 2);
        Due.hintsDue("again", x, 11, 1, -2, -3, 4, 6, 7);
        Due.hintsDue("again", x, 12, 8, 11, 3, 9, 10);
        ProofTrimmer y = Due.of(SQUARE);
        Due.due("a formula alone: check()", Due.answer(y::check), Due.STATE);
    }

    private static void edges() {
        ProofTrimmer x = Due.of(SQUARE, "1 0 0");
        x.check();
        for (int i : new int[] {Integer.MIN_VALUE, -1000, -58, -1, 7, 33, 34, 64, 69, 70, Integer.MAX_VALUE}) {
            Due.due("edges: marked(" + i + ")", x.marked(i), false);
            Due.due("edges: hints(" + i + ")", x.hints(i), 0);
            Due.due("edges: hint(" + i + ", 0)", x.hint(i, 0), 0);
            Due.due("edges: hint(6, " + i + ")", x.hint(6, i), 0);
        }
        Due.due("edges: hint(5, 2)", x.hint(5, 2), 0);
        Due.due("edges: hint(6, 3)", x.hint(6, 3), 0);
    }
}
